theorem become_ints (x : St) {t u : Nat} (ht : t < 2) (hu : u < 2) (hne : t ≠ u) : ∀ c, c < 5 → (setI (setI (setI (setI (setI x (21 + 5 * t) (x.1 (21 + 5 * u))) (22 + 5 * t) ((setI x (21 + 5 * t) (x.1 (21 + 5 * u))).1 (22 + 5 * u))) (23 + 5 * t) ((setI (setI x (21 + 5 * t) (x.1 (21 + 5 * u))) (22 + 5 * t) ((setI x (21 + 5 * t) (x.1 (21 + 5 * u))).1 (22 + 5 * u))).1 (23 + 5 * u))) (24 + 5 * t) ((setI (setI (setI x (21 + 5 * t) (x.1 (21 + 5 * u))) (22 + 5 * t) ((setI x (21 + 5 * t) (x.1 (21 + 5 * u))).1 (22 + 5 * u))) (23 + 5 * t) ((setI (setI x (21 + 5 * t) (x.1 (21 + 5 * u))) (22 + 5 * t) ((setI x (21 + 5 * t) (x.1 (21 + 5 * u))).1 (22 + 5 * u))).1 (23 + 5 * u))).1 (24 + 5 * u))) (25 + 5 * t) ((setI (setI (setI (setI x (21 + 5 * t) (x.1 (21 + 5 * u))) (22 + 5 * t) ((setI x (21 + 5 * t) (x.1 (21 + 5 * u))).1 (22 + 5 * u))) (23 + 5 * t) ((setI (setI x (21 + 5 * t) (x.1 (21 + 5 * u))) (22 + 5 * t) ((setI x (21 + 5 * t) (x.1 (21 + 5 * u))).1 (22 + 5 * u))).1 (23 + 5 * u))) (24 + 5 * t) ((setI (setI (setI x (21 + 5 * t) (x.1 (21 + 5 * u))) (22 + 5 * t) ((setI x (21 + 5 * t) (x.1 (21 + 5 * u))).1 (22 + 5 * u))) (23 + 5 * t) ((setI (setI x (21 + 5 * t) (x.1 (21 + 5 * u))) (22 + 5 * t) ((setI x (21 + 5 * t) (x.1 (21 + 5 * u))).1 (22 + 5 * u))).1 (23 + 5 * u))).1 (24 + 5 * u))).1 (25 + 5 * u))).1 (21 + c + 5 * t) = x.1 (21 + c + 5 * u) := by
  intro c hc
  have hc2 : c = 0 ∨ c = 1 ∨ c = 2 ∨ c = 3 ∨ c = 4 := by omega
  rcases hc2 with rfl | rfl | rfl | rfl | rfl
  · rw [sI_ne (by omega), sI_ne (by omega), sI_ne (by omega), sI_ne (by omega), sI_eq]
  · rw [sI_ne (by omega), sI_ne (by omega), sI_ne (by omega), sI_eq, sI_ne (by omega)]
  · rw [sI_ne (by omega), sI_ne (by omega), sI_eq, sI_ne (by omega), sI_ne (by omega)]
  · rw [sI_ne (by omega), sI_eq, sI_ne (by omega), sI_ne (by omega), sI_ne (by omega)]
  · rw [show 21 + 4 + 5 * t = 25 + 5 * t by omega, sI_eq, sI_ne (by omega), sI_ne (by omega), sI_ne (by omega), sI_ne (by omega)]
theorem become_s1 {x y : St} {t u i : Nat} (ht : t < 2) (hu : u < 2) (hne : t ≠ u) (hyf : FRW t x y) (hya : ∀ j, j < i → ∀ c, c < 2 → y.2.1 (26 + c + 6 * t) j = x.2.1 (26 + c + 6 * u) j) : ∀ j, j < i + 1 → ∀ c, c < 2 → (setA (setA y (26 + 6 * t) (upd (y.2.1 (26 + 6 * t)) i (y.2.1 (26 + 6 * u) i))) (27 + 6 * t) (upd ((setA y (26 + 6 * t) (upd (y.2.1 (26 + 6 * t)) i (y.2.1 (26 + 6 * u) i))).2.1 (27 + 6 * t)) i ((setA y (26 + 6 * t) (upd (y.2.1 (26 + 6 * t)) i (y.2.1 (26 + 6 * u) i))).2.1 (27 + 6 * u) i))).2.1 (26 + c + 6 * t) j = x.2.1 (26 + c + 6 * u) j := by
  intro j hj c hc
  have hc2 : c = 0 ∨ c = 1 := by omega
  have e0 : y.2.1 (26 + 6 * u) = x.2.1 (26 + 6 * u) := hyf.2.2 _ (by omega)
  have e1 : y.2.1 (27 + 6 * u) = x.2.1 (27 + 6 * u) := hyf.2.2 _ (by omega)
  rcases hc2 with rfl | rfl
  · rw [sA_ne (by omega), show 26 + 0 + 6 * t = 26 + 6 * t by omega, show 26 + 0 + 6 * u = 26 + 6 * u by omega, sA_eq, e0]
    by_cases e : j = i
    · subst e; rw [upd_eq]
    · rw [upd_ne e]; exact hya j (by omega) 0 (by omega)
  · rw [show 26 + 1 + 6 * t = 27 + 6 * t by omega, show 26 + 1 + 6 * u = 27 + 6 * u by omega, sA_eq, sA_ne (by omega), sA_ne (by omega), e1]
    by_cases e : j = i
    · subst e; rw [upd_eq]
    · rw [upd_ne e]; exact (show 27 + 6 * t = 26 + 1 + 6 * t by omega) ▸ (show 27 + 6 * u = 26 + 1 + 6 * u by omega) ▸ hya j (by omega) 1 (by omega)
theorem become_s2 {x y : St} {t u : Nat} {f g h : Nat → Int32} (hya : ∀ j, j < 6 → ∀ c, c < 2 → y.2.1 (26 + c + 6 * t) j = x.2.1 (26 + c + 6 * u) j) : ∀ j, j < 6 → ∀ c, c < 2 → (setA (setA (setA y (28 + 6 * t) f) (29 + 6 * t) g) (30 + 6 * t) h).2.1 (26 + c + 6 * t) j = x.2.1 (26 + c + 6 * u) j := by
  intro j hj c hc
  rw [sA_ne (by omega), sA_ne (by omega), sA_ne (by omega)]
  exact hya j hj c hc
theorem become_s3 {x y : St} {t u i : Nat} (ht : t < 2) (hu : u < 2) (hne : t ≠ u) (hyf : FRW t x y) (hyb : ∀ j, j < i → ∀ c, 2 ≤ c → c < 5 → y.2.1 (26 + c + 6 * t) j = x.2.1 (26 + c + 6 * u) j) : ∀ j, j < i + 1 → ∀ c, 2 ≤ c → c < 5 → (setA (setA (setA y (28 + 6 * t) (upd (y.2.1 (28 + 6 * t)) i (y.2.1 (28 + 6 * u) i))) (29 + 6 * t) (upd ((setA y (28 + 6 * t) (upd (y.2.1 (28 + 6 * t)) i (y.2.1 (28 + 6 * u) i))).2.1 (29 + 6 * t)) i ((setA y (28 + 6 * t) (upd (y.2.1 (28 + 6 * t)) i (y.2.1 (28 + 6 * u) i))).2.1 (29 + 6 * u) i))) (30 + 6 * t) (upd ((setA (setA y (28 + 6 * t) (upd (y.2.1 (28 + 6 * t)) i (y.2.1 (28 + 6 * u) i))) (29 + 6 * t) (upd ((setA y (28 + 6 * t) (upd (y.2.1 (28 + 6 * t)) i (y.2.1 (28 + 6 * u) i))).2.1 (29 + 6 * t)) i ((setA y (28 + 6 * t) (upd (y.2.1 (28 + 6 * t)) i (y.2.1 (28 + 6 * u) i))).2.1 (29 + 6 * u) i))).2.1 (30 + 6 * t)) i ((setA (setA y (28 + 6 * t) (upd (y.2.1 (28 + 6 * t)) i (y.2.1 (28 + 6 * u) i))) (29 + 6 * t) (upd ((setA y (28 + 6 * t) (upd (y.2.1 (28 + 6 * t)) i (y.2.1 (28 + 6 * u) i))).2.1 (29 + 6 * t)) i ((setA y (28 + 6 * t) (upd (y.2.1 (28 + 6 * t)) i (y.2.1 (28 + 6 * u) i))).2.1 (29 + 6 * u) i))).2.1 (30 + 6 * u) i))).2.1 (26 + c + 6 * t) j = x.2.1 (26 + c + 6 * u) j := by
  intro j hj c hc1 hc
  have hc2 : c = 2 ∨ c = 3 ∨ c = 4 := by omega
  have e2 : y.2.1 (28 + 6 * u) = x.2.1 (28 + 6 * u) := hyf.2.2 _ (by omega)
  have e3 : y.2.1 (29 + 6 * u) = x.2.1 (29 + 6 * u) := hyf.2.2 _ (by omega)
  have e4 : y.2.1 (30 + 6 * u) = x.2.1 (30 + 6 * u) := hyf.2.2 _ (by omega)
  rcases hc2 with rfl | rfl | rfl
  · have q := fun h => hyb j h 2 (by omega) (by omega)
    rw [show 26 + 2 + 6 * t = 28 + 6 * t by omega, show 26 + 2 + 6 * u = 28 + 6 * u by omega] at q ⊢
    rw [sA_ne (by omega), sA_ne (by omega), sA_eq, e2]
    by_cases e : j = i
    · subst e; rw [upd_eq]
    · rw [upd_ne e]; exact q (by omega)
  · have q := fun h => hyb j h 3 (by omega) (by omega)
    rw [show 26 + 3 + 6 * t = 29 + 6 * t by omega, show 26 + 3 + 6 * u = 29 + 6 * u by omega] at q ⊢
    rw [sA_ne (by omega), sA_eq, sA_ne (by omega), sA_ne (by omega), e3]
    by_cases e : j = i
    · subst e; rw [upd_eq]
    · rw [upd_ne e]; exact q (by omega)
  · have q := fun h => hyb j h 4 (by omega) (by omega)
    rw [show 26 + 4 + 6 * t = 30 + 6 * t by omega, show 26 + 4 + 6 * u = 30 + 6 * u by omega] at q ⊢
    rw [sA_eq, sA_ne (by omega), sA_ne (by omega), sA_ne (by omega), sA_ne (by omega), e4]
    by_cases e : j = i
    · subst e; rw [upd_eq]
    · rw [upd_ne e]; exact q (by omega)
theorem become_end {x y : St} {t u : Nat} {a : SA} (hr : ShR x u a) (hyi : ∀ c, c < 5 → y.1 (21 + c + 5 * t) = x.1 (21 + c + 5 * u)) (hya : ∀ j, j < 6 → ∀ c, c < 2 → y.2.1 (26 + c + 6 * t) j = x.2.1 (26 + c + 6 * u) j) (hyb : ∀ j, j < 6 → ∀ c, 2 ≤ c → c < 5 → y.2.1 (26 + c + 6 * t) j = x.2.1 (26 + c + 6 * u) j) (ok : SOK a := by assumption) : ShR y t a := by
  obtain ⟨h0, h1, h2, h3, h4, h5, h6⟩ := hr
  obtain ⟨o0, o1, o2, o3, o4, o5, o6, o7⟩ := ok
  refine ⟨(hyi 0 (by omega)).trans h0, (hyi 1 (by omega)).trans h1, (hyi 2 (by omega)).trans h2, (hyi 3 (by omega)).trans h3, ((show 25 + 5 * t = 21 + 4 + 5 * t by omega) ▸ (show 25 + 5 * u = 21 + 4 + 5 * u by omega) ▸ hyi 4 (by omega) : y.1 (25 + 5 * t) = x.1 (25 + 5 * u)).trans h4, fun j hj => ?_, fun j hj => ?_⟩
  · obtain ⟨g1, g2⟩ := h5 j hj
    exact ⟨(hya j (by omega) 0 (by omega)).trans g1, ((show 27 + 6 * t = 26 + 1 + 6 * t by omega) ▸ (show 27 + 6 * u = 26 + 1 + 6 * u by omega) ▸ hya j (by omega) 1 (by omega) : y.2.1 (27 + 6 * t) j = x.2.1 (27 + 6 * u) j).trans g2⟩
  · obtain ⟨g1, g2, g3⟩ := h6 j hj
    exact ⟨((show 28 + 6 * t = 26 + 2 + 6 * t by omega) ▸ (show 28 + 6 * u = 26 + 2 + 6 * u by omega) ▸ hyb j (by omega) 2 (by omega) (by omega) : y.2.1 (28 + 6 * t) j = x.2.1 (28 + 6 * u) j).trans g1, ((show 29 + 6 * t = 26 + 3 + 6 * t by omega) ▸ (show 29 + 6 * u = 26 + 3 + 6 * u by omega) ▸ hyb j (by omega) 3 (by omega) (by omega) : y.2.1 (29 + 6 * t) j = x.2.1 (29 + 6 * u) j).trans g2, ((show 30 + 6 * t = 26 + 4 + 6 * t by omega) ▸ (show 30 + 6 * u = 26 + 4 + 6 * u by omega) ▸ hyb j (by omega) 4 (by omega) (by omega) : y.2.1 (30 + 6 * t) j = x.2.1 (30 + 6 * u) j).trans g3⟩

def rm_X4_become : Room := ({ frames := 0, cells := 0, slots := 0, locals := 0 })
set_option maxRecDepth 20000 in
theorem c_X4_become (l : Launch) (Z : EC) (x : St) {t u : Nat} (ht : t < 2) (hu : u < 2) (hne : t ≠ u) {a : SA} (hr : ShR x u a) (ok : SOK a) : MIv l Z (wC Z) yX4_become cX4_become 3 rm_X4_become [.ref (Z.2.1 (25 + 6 * t)), .ref (Z.2.1 (25 + 6 * u))] x (fun x1 => ShR x1 t a ∧ FRW t x x1) := by
  refine MIv_of (own := RX4) (L0 := [some (.ref (Z.2.1 (25 + 6 * t))), some (.ref (Z.2.1 (25 + 6 * u))), none]) (by decide) rfl (Nat.le_of_ble_eq_true rfl) ⟨rfl, rfl, trivial⟩ ?_
  intro Γ C E
  refine J_aload_n C dX4_become_0 rfl rfl ?_
  refine J_aload_n C dX4_become_1 rfl rfl ?_
  refine G4_stream hu C wd_6_10 dX4_become_2 ?_
  refine P4_stream ht C wd_6_10 dX4_become_5 ?_
  refine J_aload_n C dX4_become_8 rfl rfl ?_
  refine J_aload_n C dX4_become_9 rfl rfl ?_
  refine G4_mild hu C wd_6_11 dX4_become_10 ?_
  refine P4_mild ht C wd_6_11 dX4_become_13 ?_
  refine J_aload_n C dX4_become_16 rfl rfl ?_
  refine J_aload_n C dX4_become_17 rfl rfl ?_
  refine G4_reach hu C wd_6_12 dX4_become_18 ?_
  refine P4_reach ht C wd_6_12 dX4_become_21 ?_
  refine J_aload_n C dX4_become_24 rfl rfl ?_
  refine J_aload_n C dX4_become_25 rfl rfl ?_
  refine G4_pools hu C wd_7_6 dX4_become_26 ?_
  refine P4_pools ht C wd_7_6 dX4_become_29 ?_
  refine J_aload_n C dX4_become_32 rfl rfl ?_
  refine J_aload_n C dX4_become_33 rfl rfl ?_
  refine G4_members hu C wd_7_15 dX4_become_34 ?_
  refine P4_members ht C wd_7_15 dX4_become_37 ?_
  have hyf : FRW t x (setI (setI (setI (setI (setI x (21 + 5 * t) (x.1 (21 + 5 * u))) (22 + 5 * t) ((setI x (21 + 5 * t) (x.1 (21 + 5 * u))).1 (22 + 5 * u))) (23 + 5 * t) ((setI (setI x (21 + 5 * t) (x.1 (21 + 5 * u))) (22 + 5 * t) ((setI x (21 + 5 * t) (x.1 (21 + 5 * u))).1 (22 + 5 * u))).1 (23 + 5 * u))) (24 + 5 * t) ((setI (setI (setI x (21 + 5 * t) (x.1 (21 + 5 * u))) (22 + 5 * t) ((setI x (21 + 5 * t) (x.1 (21 + 5 * u))).1 (22 + 5 * u))) (23 + 5 * t) ((setI (setI x (21 + 5 * t) (x.1 (21 + 5 * u))) (22 + 5 * t) ((setI x (21 + 5 * t) (x.1 (21 + 5 * u))).1 (22 + 5 * u))).1 (23 + 5 * u))).1 (24 + 5 * u))) (25 + 5 * t) ((setI (setI (setI (setI x (21 + 5 * t) (x.1 (21 + 5 * u))) (22 + 5 * t) ((setI x (21 + 5 * t) (x.1 (21 + 5 * u))).1 (22 + 5 * u))) (23 + 5 * t) ((setI (setI x (21 + 5 * t) (x.1 (21 + 5 * u))) (22 + 5 * t) ((setI x (21 + 5 * t) (x.1 (21 + 5 * u))).1 (22 + 5 * u))).1 (23 + 5 * u))) (24 + 5 * t) ((setI (setI (setI x (21 + 5 * t) (x.1 (21 + 5 * u))) (22 + 5 * t) ((setI x (21 + 5 * t) (x.1 (21 + 5 * u))).1 (22 + 5 * u))) (23 + 5 * t) ((setI (setI x (21 + 5 * t) (x.1 (21 + 5 * u))) (22 + 5 * t) ((setI x (21 + 5 * t) (x.1 (21 + 5 * u))).1 (22 + 5 * u))).1 (23 + 5 * u))).1 (24 + 5 * u))).1 (25 + 5 * u))) := ((((FRW.int (by omega) (by omega)).tr (FRW.int (by omega) (by omega))).tr (FRW.int (by omega) (by omega))).tr (FRW.int (by omega) (by omega))).tr (FRW.int (by omega) (by omega))
  have hyi := become_ints x ht hu hne
  generalize setI (setI (setI (setI (setI x (21 + 5 * t) (x.1 (21 + 5 * u))) (22 + 5 * t) ((setI x (21 + 5 * t) (x.1 (21 + 5 * u))).1 (22 + 5 * u))) (23 + 5 * t) ((setI (setI x (21 + 5 * t) (x.1 (21 + 5 * u))) (22 + 5 * t) ((setI x (21 + 5 * t) (x.1 (21 + 5 * u))).1 (22 + 5 * u))).1 (23 + 5 * u))) (24 + 5 * t) ((setI (setI (setI x (21 + 5 * t) (x.1 (21 + 5 * u))) (22 + 5 * t) ((setI x (21 + 5 * t) (x.1 (21 + 5 * u))).1 (22 + 5 * u))) (23 + 5 * t) ((setI (setI x (21 + 5 * t) (x.1 (21 + 5 * u))) (22 + 5 * t) ((setI x (21 + 5 * t) (x.1 (21 + 5 * u))).1 (22 + 5 * u))).1 (23 + 5 * u))).1 (24 + 5 * u))) (25 + 5 * t) ((setI (setI (setI (setI x (21 + 5 * t) (x.1 (21 + 5 * u))) (22 + 5 * t) ((setI x (21 + 5 * t) (x.1 (21 + 5 * u))).1 (22 + 5 * u))) (23 + 5 * t) ((setI (setI x (21 + 5 * t) (x.1 (21 + 5 * u))) (22 + 5 * t) ((setI x (21 + 5 * t) (x.1 (21 + 5 * u))).1 (22 + 5 * u))).1 (23 + 5 * u))) (24 + 5 * t) ((setI (setI (setI x (21 + 5 * t) (x.1 (21 + 5 * u))) (22 + 5 * t) ((setI x (21 + 5 * t) (x.1 (21 + 5 * u))).1 (22 + 5 * u))) (23 + 5 * t) ((setI (setI x (21 + 5 * t) (x.1 (21 + 5 * u))) (22 + 5 * t) ((setI x (21 + 5 * t) (x.1 (21 + 5 * u))).1 (22 + 5 * u))).1 (23 + 5 * u))).1 (24 + 5 * u))).1 (25 + 5 * u)) = y at hyf hyi ⊢
  refine J_iconst C (v := nI 0) dX4_become_40 (by decide) ?_
  refine J_istore_n C (L' := [some (.ref (Z.2.1 (25 + 6 * t))), some (.ref (Z.2.1 (25 + 6 * u))), some (.int (nI 0))]) dX4_become_41 rfl (by decide) rfl rfl ?_
  have lp42 : ∀ (f : Nat) (i : Nat) (y : St), (i ≤ 6) → (FRW t x y) → ((∀ c, c < 5 → y.1 (21 + c + 5 * t) = x.1 (21 + c + 5 * u))) → ((∀ j, j < i → ∀ c, c < 2 → y.2.1 (26 + c + 6 * t) j = x.2.1 (26 + c + 6 * u) j)) → (6 - i < f) →  J Γ y 42 [some (.ref (Z.2.1 (25 + 6 * t))), some (.ref (Z.2.1 (25 + 6 * u))), some (.int (nI i))] [] := by
    intro f
    induction f with
    | zero =>
      intro i y hi hyf hyi hya hf
      omega
    | succ f ih42 =>
      intro i y hi hyf hyi hya hf
      refine J_iload_n C dX4_become_42 rfl rfl ?_
      refine J_bipush C (v := nI 6) dX4_become_43 (by decide) ?_
      refine J_icmp_ge_n C (tgt := 78) dX4_become_45 (by decide) (by omega) (by omega) (fun c45 => ?_) (fun c45 => ?_)
      · skip
        refine J_iconst C (v := nI 0) dX4_become_78 (by decide) ?_
        refine J_istore_n C (L' := [some (.ref (Z.2.1 (25 + 6 * t))), some (.ref (Z.2.1 (25 + 6 * u))), some (.int (nI 0))]) dX4_become_79 rfl (by decide) rfl rfl ?_
        have lp80 : ∀ (f : Nat) (i : Nat) (z : St), (i ≤ 6) → (FRW t x z) → ((∀ c, c < 5 → z.1 (21 + c + 5 * t) = x.1 (21 + c + 5 * u))) → ((∀ j, j < 6 → ∀ c, c < 2 → z.2.1 (26 + c + 6 * t) j = x.2.1 (26 + c + 6 * u) j)) → ((∀ j, j < i → ∀ c, 2 ≤ c → c < 5 → z.2.1 (26 + c + 6 * t) j = x.2.1 (26 + c + 6 * u) j)) → (6 - i < f) →  J Γ z 80 [some (.ref (Z.2.1 (25 + 6 * t))), some (.ref (Z.2.1 (25 + 6 * u))), some (.int (nI i))] [] := by
          intro f
          induction f with
          | zero =>
            intro i z hi hyf hyi hya hyb hf
            omega
          | succ f ih80 =>
            intro i z hi hyf hyi hya hyb hf
            refine J_iload_n C dX4_become_80 rfl rfl ?_
            refine J_bipush C (v := nI 6) dX4_become_81 (by decide) ?_
            refine J_icmp_ge_n C (tgt := 128) dX4_become_83 (by decide) (by omega) (by omega) (fun c83 => ?_) (fun c83 => ?_)
            · skip
              exact E dX4_become_128 (⟨become_end hr hyi hya ((show i = 6 by omega) ▸ hyb), hyf⟩)
            · skip
              refine J_aload_n C dX4_become_86 rfl rfl ?_
              refine G4_kindOf ht C wd_3_11 dX4_become_87 ?_
              refine J_iload_n C dX4_become_90 rfl rfl ?_
              refine J_aload_n C dX4_become_91 rfl rfl ?_
              refine G4_kindOf hu C wd_3_11 dX4_become_92 ?_
              refine J_iload_n C dX4_become_95 rfl rfl ?_
              refine L_kindOf hu C (by omega) rfl dX4_become_96 ?_
              refine S_kindOf ht C (by omega) dX4_become_97 ?_
              refine J_aload_n C dX4_become_98 rfl rfl ?_
              refine G4_seats ht C wd_3_12 dX4_become_99 ?_
              refine J_iload_n C dX4_become_102 rfl rfl ?_
              refine J_aload_n C dX4_become_103 rfl rfl ?_
              refine G4_seats hu C wd_3_12 dX4_become_104 ?_
              refine J_iload_n C dX4_become_107 rfl rfl ?_
              refine L_seats hu C (by omega) rfl dX4_become_108 ?_
              refine S_seats ht C (by omega) dX4_become_109 ?_
              refine J_aload_n C dX4_become_110 rfl rfl ?_
              refine G4_views ht C wd_3_13 dX4_become_111 ?_
              refine J_iload_n C dX4_become_114 rfl rfl ?_
              refine J_aload_n C dX4_become_115 rfl rfl ?_
              refine G4_views hu C wd_3_13 dX4_become_116 ?_
              refine J_iload_n C dX4_become_119 rfl rfl ?_
              refine L_views hu C (by omega) rfl dX4_become_120 ?_
              refine S_views ht C (by omega) dX4_become_121 ?_
              refine J_iinc C (v := nI (i + 1)) (L' := [some (.ref (Z.2.1 (25 + 6 * t))), some (.ref (Z.2.1 (25 + 6 * u))), some (.int (nI (i + 1)))]) dX4_become_122 rfl (nI_1 _) (by decide) rfl rfl ?_
              refine J_goto (tgt := 80) C dX4_become_125 (by decide) ?_
              refine J_drop ?_ (ih80 (i + 1) (setA (setA (setA z (28 + 6 * t) (upd (z.2.1 (28 + 6 * t)) i (z.2.1 (28 + 6 * u) i))) (29 + 6 * t) (upd ((setA z (28 + 6 * t) (upd (z.2.1 (28 + 6 * t)) i (z.2.1 (28 + 6 * u) i))).2.1 (29 + 6 * t)) i ((setA z (28 + 6 * t) (upd (z.2.1 (28 + 6 * t)) i (z.2.1 (28 + 6 * u) i))).2.1 (29 + 6 * u) i))) (30 + 6 * t) (upd ((setA (setA z (28 + 6 * t) (upd (z.2.1 (28 + 6 * t)) i (z.2.1 (28 + 6 * u) i))) (29 + 6 * t) (upd ((setA z (28 + 6 * t) (upd (z.2.1 (28 + 6 * t)) i (z.2.1 (28 + 6 * u) i))).2.1 (29 + 6 * t)) i ((setA z (28 + 6 * t) (upd (z.2.1 (28 + 6 * t)) i (z.2.1 (28 + 6 * u) i))).2.1 (29 + 6 * u) i))).2.1 (30 + 6 * t)) i ((setA (setA z (28 + 6 * t) (upd (z.2.1 (28 + 6 * t)) i (z.2.1 (28 + 6 * u) i))) (29 + 6 * t) (upd ((setA z (28 + 6 * t) (upd (z.2.1 (28 + 6 * t)) i (z.2.1 (28 + 6 * u) i))).2.1 (29 + 6 * t)) i ((setA z (28 + 6 * t) (upd (z.2.1 (28 + 6 * t)) i (z.2.1 (28 + 6 * u) i))).2.1 (29 + 6 * u) i))).2.1 (30 + 6 * u) i))) (by omega) (((hyf.tr (FRW.arr (by omega) (by omega))).tr (FRW.arr (by omega) (by omega))).tr (FRW.arr (by omega) (by omega))) hyi (become_s2 hya) (become_s3 ht hu hne hyf hyb) (by omega))
              exact ⟨rfl, rfl, rfl, trivial⟩
        refine J_drop ?_ (lp80 (6 + 1) 0 y (by omega) hyf hyi ((show i = 6 by omega) ▸ hya) (fun j hj => absurd hj (Nat.not_lt_zero j)) (by omega))
        exact ⟨rfl, rfl, rfl, trivial⟩
      · skip
        refine J_aload_n C dX4_become_48 rfl rfl ?_
        refine G4_heights ht C wd_3_9 dX4_become_49 ?_
        refine J_iload_n C dX4_become_52 rfl rfl ?_
        refine J_aload_n C dX4_become_53 rfl rfl ?_
        refine G4_heights hu C wd_3_9 dX4_become_54 ?_
        refine J_iload_n C dX4_become_57 rfl rfl ?_
        refine L_heights hu C (by omega) rfl dX4_become_58 ?_
        refine S_heights ht C (by omega) dX4_become_59 ?_
        refine J_aload_n C dX4_become_60 rfl rfl ?_
        refine G4_depths ht C wd_3_10 dX4_become_61 ?_
        refine J_iload_n C dX4_become_64 rfl rfl ?_
        refine J_aload_n C dX4_become_65 rfl rfl ?_
        refine G4_depths hu C wd_3_10 dX4_become_66 ?_
        refine J_iload_n C dX4_become_69 rfl rfl ?_
        refine L_depths hu C (by omega) rfl dX4_become_70 ?_
        refine S_depths ht C (by omega) dX4_become_71 ?_
        refine J_iinc C (v := nI (i + 1)) (L' := [some (.ref (Z.2.1 (25 + 6 * t))), some (.ref (Z.2.1 (25 + 6 * u))), some (.int (nI (i + 1)))]) dX4_become_72 rfl (nI_1 _) (by decide) rfl rfl ?_
        refine J_goto (tgt := 42) C dX4_become_75 (by decide) ?_
        refine J_drop ?_ (ih42 (i + 1) (setA (setA y (26 + 6 * t) (upd (y.2.1 (26 + 6 * t)) i (y.2.1 (26 + 6 * u) i))) (27 + 6 * t) (upd ((setA y (26 + 6 * t) (upd (y.2.1 (26 + 6 * t)) i (y.2.1 (26 + 6 * u) i))).2.1 (27 + 6 * t)) i ((setA y (26 + 6 * t) (upd (y.2.1 (26 + 6 * t)) i (y.2.1 (26 + 6 * u) i))).2.1 (27 + 6 * u) i))) (by omega) ((hyf.tr (FRW.arr (by omega) (by omega))).tr (FRW.arr (by omega) (by omega))) hyi (become_s1 ht hu hne hyf hya) (by omega))
        exact ⟨rfl, rfl, rfl, trivial⟩
  refine J_drop ?_ (lp42 (6 + 1) 0 y (by omega) hyf hyi (fun j hj => absurd hj (Nat.not_lt_zero j)) (by omega))
  exact ⟨rfl, rfl, rfl, trivial⟩
def rm_X1_areSoIn : Room := ({ frames := 4, cells := 0, slots := 0, locals := 93 })
set_option maxRecDepth 20000 in
theorem c_X1_areSoIn (l : Launch) (Z : EC) (x : St) {w : Nat} (hw : w < 2) {b : SA} (hr : ShR x w b) (ok : SOK b) (R : Nat × (Nat → Nat → Nat)) (hR : CR x R) (h8 : R.1 ≤ 8) (hb : ∀ j, j < R.1 → R.2 0 j < b.1 4 ∧ R.2 1 j ≤ 9 ∧ R.2 2 j < b.1 3) : MIz l Z (wC Z) yX1_areSoIn cX1_areSoIn 3 rm_X1_areSoIn [.ref (Z.2.1 11), .ref (Z.2.1 (25 + 6 * w))] x (fun b1 x1 => b1 = soR b R.2 R.1 ∧ x = x1) := by
  obtain ⟨ok0, ok1, ok2, ok3, ok4, ok5, ok6, ok7⟩ := id ok
  refine MIz_of (own := RX1) (L0 := [some (.ref (Z.2.1 11)), some (.ref (Z.2.1 (25 + 6 * w))), none]) (by decide) rfl (Nat.le_of_ble_eq_true rfl) ⟨rfl, rfl, trivial⟩ ?_
  intro Γ C E
  refine J_iconst C (v := nI 0) dX1_areSoIn_0 (by decide) ?_
  refine J_istore_n C (L' := [some (.ref (Z.2.1 11)), some (.ref (Z.2.1 (25 + 6 * w))), some (.int (nI 0))]) dX1_areSoIn_1 rfl (by decide) rfl rfl ?_
  have lp2 : ∀ (f : Nat) (i : Nat), (i ≤ R.1) → (soR b R.2 i = true) → (R.1 - i < f) →  J Γ x 2 [some (.ref (Z.2.1 11)), some (.ref (Z.2.1 (25 + 6 * w))), some (.int (nI i))] [] := by
    intro f
    induction f with
    | zero =>
      intro i hi hv hf
      omega
    | succ f ih2 =>
      intro i hi hv hf
      refine J_iload_n C dX1_areSoIn_2 rfl rfl ?_
      refine J_aload_n C dX1_areSoIn_3 rfl rfl ?_
      refine G1_count C wd_29_8 dX1_areSoIn_4 ?_
      rw [show x.1 17 = nI R.1 from hR.1]
      refine J_icmp_ge_n C (tgt := 43) dX1_areSoIn_7 (by decide) (by omega) (by omega) (fun c7 => ?_) (fun c7 => ?_)
      · skip
        refine J_iconst C (v := nI 1) dX1_areSoIn_43 (by decide) ?_
        exact E (b := true) dX1_areSoIn_44 (⟨by rw [← hv, show i = R.1 by omega], rfl⟩)
      · skip
        obtain ⟨g1, g2, g3⟩ := hb i (by omega)
        obtain ⟨g4, g5, g6⟩ := ok6 _ g1
        have hcl : carry b (b.2 3 (R.2 0 i)) (b.2 2 (R.2 0 i)) (R.2 1 i) < b.1 3 := carry_lt g5
        refine J_aload_n C dX1_areSoIn_10 rfl rfl ?_
        refine J_aload_n C dX1_areSoIn_11 rfl rfl ?_
        refine G1_who C wd_2_20 dX1_areSoIn_12 ?_
        refine J_iload_n C dX1_areSoIn_15 rfl rfl ?_
        refine L_who C (v := nI (R.2 0 i)) (by omega) ((hR.2 i (by omega)).1) dX1_areSoIn_16 ?_
        refine J_aload_n C dX1_areSoIn_17 rfl rfl ?_
        refine G1_when C wd_2_21 dX1_areSoIn_18 ?_
        refine J_iload_n C dX1_areSoIn_21 rfl rfl ?_
        refine L_when C (v := nI (R.2 1 i)) (by omega) ((hR.2 i (by omega)).2.1) dX1_areSoIn_22 ?_
        refine J_callVi C (N := 10) (As := [.int (nI (R.2 0 i)), .int (nI (R.2 1 i))]) (c_X4_seatBehind l Z _ hw hr ok _ _ g1 (by omega)) cw_RX1_25 wd_17_15 wd_17_16 (at_shore hw) rfl rfl rfl (Nat.le_of_ble_eq_true rfl) rfl rfl (Nat.le_of_ble_eq_true rfl) (Nat.le_of_ble_eq_true rfl) dX1_areSoIn_23 (fun r23 x23 hp23 => ?_)
        obtain ⟨rfl, rfl⟩ := hp23
        refine J_aload_n C dX1_areSoIn_26 rfl rfl ?_
        refine G1_where C wd_2_22 dX1_areSoIn_27 ?_
        refine J_iload_n C dX1_areSoIn_30 rfl rfl ?_
        refine L_where C (v := nI (R.2 2 i)) (by omega) ((hR.2 i (by omega)).2.2) dX1_areSoIn_31 ?_
        refine J_icmp_eq_n C (tgt := 37) dX1_areSoIn_32 (by decide) (by omega) (by omega) (fun c32 => ?_) (fun c32 => ?_)
        · skip
          refine J_iinc C (v := nI (i + 1)) (L' := [some (.ref (Z.2.1 11)), some (.ref (Z.2.1 (25 + 6 * w))), some (.int (nI (i + 1)))]) dX1_areSoIn_37 rfl (nI_1 _) (by decide) rfl rfl ?_
          refine J_goto (tgt := 2) C dX1_areSoIn_40 (by decide) ?_
          refine J_drop ?_ (ih2 (i + 1) (by omega) (soR_step hv c32) (by omega))
          exact ⟨rfl, rfl, rfl, trivial⟩
        · skip
          refine J_iconst C (v := nI 0) dX1_areSoIn_35 (by decide) ?_
          exact E (b := false) dX1_areSoIn_36 (⟨(soR_false c32 (by omega)).symm, rfl⟩)
  refine J_drop ?_ (lp2 (R.1 + 1) 0 (by omega) rfl (by omega))
  exact ⟨rfl, rfl, rfl, trivial⟩
def rm_X5_heights : Room := ({ frames := 5, cells := 0, slots := 0, locals := 115 })
set_option maxRecDepth 20000 in
theorem c_X5_heights (l : Launch) (Z : EC) (x : St) (A : AB) (hA : AbsC x A) (hk : AOK A) (q : Int32) : MIi l Z (wC Z) yX5_heights cX5_heights 4 rm_X5_heights [.ref (Z.2.1 0), .int q] x (fun r x1 => r = R_heights A q ∧ AbsC x1 A) := by
  obtain ⟨⟨hcur, htr, hne, hr⟩, hH, hR, hT, hF⟩ := id hA
  obtain ⟨ok, hkH, hkR, hkr⟩ := id hk
  obtain ⟨ok0, ok1, ok2, ok3, ok4, ok5, ok6, ok7⟩ := id ok
  refine MIi_of (own := RX5) (L0 := [some (.ref (Z.2.1 0)), some (.int q), none, none]) (by decide) rfl (Nat.le_of_ble_eq_true rfl) ⟨rfl, rfl, trivial⟩ ?_
  intro Γ C E
  refine J_aload_n C dX5_heights_0 rfl rfl ?_
  refine J_iload_n C dX5_heights_1 rfl rfl ?_
  refine J_callVz C (q0 := 0) (ci := 5) (N := 8) (As := [.int q]) (c_X5_isPool l Z _ A.1 hA.1 ok _) cw_RX5_89 wd_11_3 wd_11_4 rfl rfl rfl rfl (Nat.le_of_ble_eq_true rfl) rfl rfl (Nat.le_of_ble_eq_true rfl) (Nat.le_of_ble_eq_true rfl) dX5_heights_2 (fun b2 x2 hp2 => ?_)
  obtain ⟨rfl, rfl⟩ := hp2
  refine J_if_ne_d C (tgt := 10) dX5_heights_5 (by decide) (fun c5 => ?_) (fun c5 => ?_)
  · skip
    obtain ⟨qn, hqn, rfl⟩ := rng_nat c5
    have tnq := tn_nI (n := qn) (by omega)
    have gq := ok5 qn hqn
    refine J_aload_n C dX5_heights_10 rfl rfl ?_
    refine G5_trial C wd_2_8 dX5_heights_11 ?_
    rw [show x.2.2.2.1 = x.2.2.2.1 from rfl]
    refine J_aload_n C dX5_heights_14 rfl rfl ?_
    refine G5_shore C wd_2_7 dX5_heights_15 ?_
    refine J_callVv C (N := 10) (As := [.ref (Z.2.1 (25 + 6 * x.2.2.1))]) (c_X4_become l Z _ htr hcur (Ne.symm hne) hr ok) cw_RX5_179 wd_22_21 wd_22_22 (at_shore htr) rfl rfl rfl (Nat.le_of_ble_eq_true rfl) rfl rfl (Nat.le_of_ble_eq_true rfl) (Nat.le_of_ble_eq_true rfl) dX5_heights_18 (fun x18 hp18 => ?_)
    obtain ⟨hb18, hf18⟩ := hp18
    have hA2 := hf18.abs htr (Ne.symm hne) hA
    have hc2 := hf18.1
    refine J_iconst C (v := nI 0) dX5_heights_21 (by decide) ?_
    refine J_istore_n C (L' := [some (.ref (Z.2.1 0)), some (.int (nI qn)), some (.int (nI 0)), none]) dX5_heights_22 rfl (by decide) rfl rfl ?_
    refine J_iconst C (v := nI 1) dX5_heights_23 (by decide) ?_
    refine J_istore_n C (L' := [some (.ref (Z.2.1 0)), some (.int (nI qn)), some (.int (nI 0)), some (.int (nI 1))]) dX5_heights_24 rfl (by decide) rfl rfl ?_
    have lp25 : ∀ (f : Nat) (v u : Nat) (y : St), (1 ≤ v) → (v ≤ 10) → (AbsC y A) → (y.2.2 = x.2.2) → (ShR y x.2.2.2.1 (A.1.1, up2 A.1.2 0 qn u)) → (10 - v < f) →  J Γ y 25 [some (.ref (Z.2.1 0)), some (.int (nI qn)), some (.int (nI (bits (fun v => decide (1 ≤ v) && soR (A.1.1, up2 A.1.2 0 qn v) A.2.2.1.2 A.2.2.1.1) v))), some (.int (nI v))] [] := by
      intro f
      induction f with
      | zero =>
        intro v u y hv0 hv hyA hyc hyr hf
        omega
      | succ f ih25 =>
        intro v u y hv0 hv hyA hyc hyr hf
        have hyH := hyA.2.1
        obtain ⟨⟨hyc1, hyt1, hyn1, hyr1⟩, hyH2, hyR, hyT, hyF⟩ := id hyA
        refine J_iload_n C dX5_heights_25 rfl rfl ?_
        refine J_bipush C (v := nI 9) dX5_heights_26 (by decide) ?_
        refine J_icmp_gt_n C (tgt := 71) dX5_heights_28 (by decide) (by omega) (by omega) (fun c28 => ?_) (fun c28 => ?_)
        · skip
          refine J_iload_n C dX5_heights_71 rfl rfl ?_
          exact E dX5_heights_72 (⟨by rw [R_heights, if_pos c5, show v = 10 by omega]; simp only [tnq], hyA⟩)
        · skip
          refine J_aload_n C dX5_heights_31 rfl rfl ?_
          refine G5_trial C wd_2_8 dX5_heights_32 ?_
          rw [show y.2.2.2.1 = x.2.2.2.1 from by rw [hyc]]
          refine G4_heights htr C wd_11_0 dX5_heights_35 ?_
          refine J_iload_n C dX5_heights_38 rfl rfl ?_
          refine J_iload_n C dX5_heights_39 rfl rfl ?_
          refine S_heights htr C (by omega) dX5_heights_40 ?_
          have hyr2 : ShR (setA y (26 + 6 * x.2.2.2.1) (upd (y.2.1 (26 + 6 * x.2.2.2.1)) qn (nI v))) x.2.2.2.1 (A.1.1, up2 A.1.2 0 qn v) := by have g : ShR (setA y (26 + 6 * x.2.2.2.1) (upd (y.2.1 (26 + 6 * x.2.2.2.1)) qn (nI v))) x.2.2.2.1 (A.1.1, up2 (up2 A.1.2 0 qn u) 0 qn v) := hyr.setA (t := 0) (i := qn) (v := v) (by omega); rw [up2_up2] at g; exact g
          have hyf2 : FRW x.2.2.2.1 y (setA y (26 + 6 * x.2.2.2.1) (upd (y.2.1 (26 + 6 * x.2.2.2.1)) qn (nI v))) := FRW.arr (by omega) (by omega)
          have hyA2 := hyf2.abs htr (by rw [hyc]; exact Ne.symm hne) hyA
          have hyc2 := hyf2.1.trans hyc
          have hyR2 := hyA2.2.2.1
          generalize setA y (26 + 6 * x.2.2.2.1) (upd (y.2.1 (26 + 6 * x.2.2.2.1)) qn (nI v)) = y2 at hyr2 hyf2 hyA2 hyc2 hyR2 ⊢
          refine J_iload_n C dX5_heights_41 rfl rfl ?_
          refine J_aload_n C dX5_heights_42 rfl rfl ?_
          refine G5_readings C wd_1_23 dX5_heights_43 ?_
          refine J_aload_n C dX5_heights_46 rfl rfl ?_
          refine G5_trial C wd_2_8 dX5_heights_47 ?_
          rw [show y2.2.2.2.1 = x.2.2.2.1 from by rw [hyc2]]
          refine J_callVz C (q0 := 11) (ci := 1) (N := 4) (As := [.ref (Z.2.1 (25 + 6 * x.2.2.2.1))]) (c_X1_areSoIn l Z _ htr hyr2 (sok_up2 (v := v) ok (by omega)) A.2.2.1 hyR2 hkR (fun j hj => hkr j hj)) cw_RX5_250 wd_30_2 wd_30_3 rfl rfl rfl rfl (Nat.le_of_ble_eq_true rfl) rfl rfl (Nat.le_of_ble_eq_true rfl) (Nat.le_of_ble_eq_true rfl) dX5_heights_50 (fun b50 x50 hp50 => ?_)
          obtain ⟨rfl, rfl⟩ := hp50
          refine J_if_eq_b C (tgt := 62) dX5_heights_53 (by decide) (fun c53 => ?_) (fun c53 => ?_)
          · skip
            refine J_iconst C (v := nI 0) dX5_heights_62 (by decide) ?_
            refine J_ior C (v := nI (bits (fun v => decide (1 ≤ v) && soR (A.1.1, up2 A.1.2 0 qn v) A.2.2.1.2 A.2.2.1.1) (v + 1))) dX5_heights_63 (or_no (p := (fun v => decide (1 ≤ v) && soR (A.1.1, up2 A.1.2 0 qn v) A.2.2.1.2 A.2.2.1.1)) (by simp only [c53, Bool.and_false]; decide)) ?_
            refine J_istore_n C (L' := [some (.ref (Z.2.1 0)), some (.int (nI qn)), some (.int (nI (bits (fun v => decide (1 ≤ v) && soR (A.1.1, up2 A.1.2 0 qn v) A.2.2.1.2 A.2.2.1.1) (v + 1)))), some (.int (nI v))]) dX5_heights_64 rfl (by decide) rfl rfl ?_
            refine J_iinc C (v := nI (v + 1)) (L' := [some (.ref (Z.2.1 0)), some (.int (nI qn)), some (.int (nI (bits (fun v => decide (1 ≤ v) && soR (A.1.1, up2 A.1.2 0 qn v) A.2.2.1.2 A.2.2.1.1) (v + 1)))), some (.int (nI (v + 1)))]) dX5_heights_65 rfl (nI_1 _) (by decide) rfl rfl ?_
            refine J_goto (tgt := 25) C dX5_heights_68 (by decide) ?_
            refine J_drop ?_ (ih25 (v + 1) v y2 (by omega) (by omega) hyA2 hyc2 hyr2 (by omega))
            exact ⟨rfl, rfl, rfl, rfl, trivial⟩
          · skip
            refine J_iconst C (v := nI 1) dX5_heights_56 (by decide) ?_
            refine J_iload_n C dX5_heights_57 rfl rfl ?_
            refine J_ishl C (v := nI (2 ^ v)) dX5_heights_58 (sh1 _ (by omega)) ?_
            refine J_goto (tgt := 63) C dX5_heights_59 (by decide) ?_
            refine J_ior C (v := nI (bits (fun v => decide (1 ≤ v) && soR (A.1.1, up2 A.1.2 0 qn v) A.2.2.1.2 A.2.2.1.1) (v + 1))) dX5_heights_63 (bits_or (p := (fun v => decide (1 ≤ v) && soR (A.1.1, up2 A.1.2 0 qn v) A.2.2.1.2 A.2.2.1.1)) (by simp only [Bool.and_eq_true, decide_eq_true_eq]; exact ⟨hv0, c53⟩)) ?_
            refine J_istore_n C (L' := [some (.ref (Z.2.1 0)), some (.int (nI qn)), some (.int (nI (bits (fun v => decide (1 ≤ v) && soR (A.1.1, up2 A.1.2 0 qn v) A.2.2.1.2 A.2.2.1.1) (v + 1)))), some (.int (nI v))]) dX5_heights_64 rfl (by decide) rfl rfl ?_
            refine J_iinc C (v := nI (v + 1)) (L' := [some (.ref (Z.2.1 0)), some (.int (nI qn)), some (.int (nI (bits (fun v => decide (1 ≤ v) && soR (A.1.1, up2 A.1.2 0 qn v) A.2.2.1.2 A.2.2.1.1) (v + 1)))), some (.int (nI (v + 1)))]) dX5_heights_65 rfl (nI_1 _) (by decide) rfl rfl ?_
            refine J_goto (tgt := 25) C dX5_heights_68 (by decide) ?_
            refine J_drop ?_ (ih25 (v + 1) v y2 (by omega) (by omega) hyA2 hyc2 hyr2 (by omega))
            exact ⟨rfl, rfl, rfl, rfl, trivial⟩
    refine J_drop ?_ (lp25 (10 + 1) 1 (A.1.2 0 qn) x18 (by omega) (by omega) hA2 hc2 (by rw [up2_same]; exact hb18) (by omega))
    exact ⟨rfl, rfl, bits1V (by simp), rfl, trivial⟩
  · skip
    refine J_iconst C (v := (-1)) dX5_heights_8 (by decide) ?_
    exact E dX5_heights_9 (⟨by rw [R_heights, if_neg c5], hA⟩)
def rm_X5_kinds : Room := ({ frames := 5, cells := 0, slots := 0, locals := 115 })
set_option maxRecDepth 20000 in
theorem c_X5_kinds (l : Launch) (Z : EC) (x : St) (A : AB) (hA : AbsC x A) (hk : AOK A) (m : Int32) : MIi l Z (wC Z) yX5_kinds cX5_kinds 4 rm_X5_kinds [.ref (Z.2.1 0), .int m] x (fun r x1 => r = R_kinds A m ∧ AbsC x1 A) := by
  obtain ⟨⟨hcur, htr, hne, hr⟩, hH, hR, hT, hF⟩ := id hA
  obtain ⟨ok, hkH, hkR, hkr⟩ := id hk
  obtain ⟨ok0, ok1, ok2, ok3, ok4, ok5, ok6, ok7⟩ := id ok
  refine MIi_of (own := RX5) (L0 := [some (.ref (Z.2.1 0)), some (.int m), none, none]) (by decide) rfl (Nat.le_of_ble_eq_true rfl) ⟨rfl, rfl, trivial⟩ ?_
  intro Γ C E
  refine J_aload_n C dX5_kinds_0 rfl rfl ?_
  refine J_iload_n C dX5_kinds_1 rfl rfl ?_
  refine J_callVz C (q0 := 0) (ci := 5) (N := 8) (As := [.int m]) (c_X5_isMember l Z _ A.1 hA.1 ok _) cw_RX5_105 wd_13_2 wd_13_3 rfl rfl rfl rfl (Nat.le_of_ble_eq_true rfl) rfl rfl (Nat.le_of_ble_eq_true rfl) (Nat.le_of_ble_eq_true rfl) dX5_kinds_2 (fun b2 x2 hp2 => ?_)
  obtain ⟨rfl, rfl⟩ := hp2
  refine J_if_ne_d C (tgt := 10) dX5_kinds_5 (by decide) (fun c5 => ?_) (fun c5 => ?_)
  · skip
    obtain ⟨mn, hmn, rfl⟩ := rng_nat c5
    have tnm := tn_nI (n := mn) (by omega)
    have gm := ok6 mn hmn
    have hs1 := ok7 (by omega)
    refine J_aload_n C dX5_kinds_10 rfl rfl ?_
    refine G5_trial C wd_2_8 dX5_kinds_11 ?_
    rw [show x.2.2.2.1 = x.2.2.2.1 from rfl]
    refine J_aload_n C dX5_kinds_14 rfl rfl ?_
    refine G5_shore C wd_2_7 dX5_kinds_15 ?_
    refine J_callVv C (N := 10) (As := [.ref (Z.2.1 (25 + 6 * x.2.2.1))]) (c_X4_become l Z _ htr hcur (Ne.symm hne) hr ok) cw_RX5_179 wd_22_21 wd_22_22 (at_shore htr) rfl rfl rfl (Nat.le_of_ble_eq_true rfl) rfl rfl (Nat.le_of_ble_eq_true rfl) (Nat.le_of_ble_eq_true rfl) dX5_kinds_18 (fun x18 hp18 => ?_)
    obtain ⟨hb18, hf18⟩ := hp18
    have hA2 := hf18.abs htr (Ne.symm hne) hA
    have hc2 := hf18.1
    refine J_iconst C (v := nI 0) dX5_kinds_21 (by decide) ?_
    refine J_istore_n C (L' := [some (.ref (Z.2.1 0)), some (.int (nI mn)), some (.int (nI 0)), none]) dX5_kinds_22 rfl (by decide) rfl rfl ?_
    refine J_iconst C (v := nI 0) dX5_kinds_23 (by decide) ?_
    refine J_istore_n C (L' := [some (.ref (Z.2.1 0)), some (.int (nI mn)), some (.int (nI 0)), some (.int (nI 0))]) dX5_kinds_24 rfl (by decide) rfl rfl ?_
    have lp25 : ∀ (f : Nat) (v u : Nat) (y : St), (0 ≤ v) → (v ≤ 3) → (AbsC y A) → (y.2.2 = x.2.2) → (ShR y x.2.2.2.1 (A.1.1, up2 A.1.2 2 mn u)) → (3 - v < f) →  J Γ y 25 [some (.ref (Z.2.1 0)), some (.int (nI mn)), some (.int (nI (bits (fun v => soR (A.1.1, up2 A.1.2 2 mn v) A.2.2.1.2 A.2.2.1.1) v))), some (.int (nI v))] [] := by
      intro f
      induction f with
      | zero =>
        intro v u y hv0 hv hyA hyc hyr hf
        omega
      | succ f ih25 =>
        intro v u y hv0 hv hyA hyc hyr hf
        have hyH := hyA.2.1
        obtain ⟨⟨hyc1, hyt1, hyn1, hyr1⟩, hyH2, hyR, hyT, hyF⟩ := id hyA
        refine J_iload_n C dX5_kinds_25 rfl rfl ?_
        refine J_iconst C (v := nI 2) dX5_kinds_26 (by decide) ?_
        refine J_icmp_gt_n C (tgt := 70) dX5_kinds_27 (by decide) (by omega) (by omega) (fun c27 => ?_) (fun c27 => ?_)
        · skip
          refine J_iload_n C dX5_kinds_70 rfl rfl ?_
          exact E dX5_kinds_71 (⟨by rw [R_kinds, if_pos c5, show v = 3 by omega]; simp only [tnm], hyA⟩)
        · skip
          refine J_aload_n C dX5_kinds_30 rfl rfl ?_
          refine G5_trial C wd_2_8 dX5_kinds_31 ?_
          rw [show y.2.2.2.1 = x.2.2.2.1 from by rw [hyc]]
          refine G4_kindOf htr C wd_12_22 dX5_kinds_34 ?_
          refine J_iload_n C dX5_kinds_37 rfl rfl ?_
          refine J_iload_n C dX5_kinds_38 rfl rfl ?_
          refine S_kindOf htr C (by omega) dX5_kinds_39 ?_
          have hyr2 : ShR (setA y (28 + 6 * x.2.2.2.1) (upd (y.2.1 (28 + 6 * x.2.2.2.1)) mn (nI v))) x.2.2.2.1 (A.1.1, up2 A.1.2 2 mn v) := by have g : ShR (setA y (28 + 6 * x.2.2.2.1) (upd (y.2.1 (28 + 6 * x.2.2.2.1)) mn (nI v))) x.2.2.2.1 (A.1.1, up2 (up2 A.1.2 2 mn u) 2 mn v) := hyr.setA (t := 2) (i := mn) (v := v) (by omega); rw [up2_up2] at g; exact g
          have hyf2 : FRW x.2.2.2.1 y (setA y (28 + 6 * x.2.2.2.1) (upd (y.2.1 (28 + 6 * x.2.2.2.1)) mn (nI v))) := FRW.arr (by omega) (by omega)
          have hyA2 := hyf2.abs htr (by rw [hyc]; exact Ne.symm hne) hyA
          have hyc2 := hyf2.1.trans hyc
          have hyR2 := hyA2.2.2.1
          generalize setA y (28 + 6 * x.2.2.2.1) (upd (y.2.1 (28 + 6 * x.2.2.2.1)) mn (nI v)) = y2 at hyr2 hyf2 hyA2 hyc2 hyR2 ⊢
          refine J_iload_n C dX5_kinds_40 rfl rfl ?_
          refine J_aload_n C dX5_kinds_41 rfl rfl ?_
          refine G5_readings C wd_1_23 dX5_kinds_42 ?_
          refine J_aload_n C dX5_kinds_45 rfl rfl ?_
          refine G5_trial C wd_2_8 dX5_kinds_46 ?_
          rw [show y2.2.2.2.1 = x.2.2.2.1 from by rw [hyc2]]
          refine J_callVz C (q0 := 11) (ci := 1) (N := 4) (As := [.ref (Z.2.1 (25 + 6 * x.2.2.2.1))]) (c_X1_areSoIn l Z _ htr hyr2 (sok_up2 (v := v) ok (by omega)) A.2.2.1 hyR2 hkR (fun j hj => hkr j hj)) cw_RX5_250 wd_30_2 wd_30_3 rfl rfl rfl rfl (Nat.le_of_ble_eq_true rfl) rfl rfl (Nat.le_of_ble_eq_true rfl) (Nat.le_of_ble_eq_true rfl) dX5_kinds_49 (fun b49 x49 hp49 => ?_)
          obtain ⟨rfl, rfl⟩ := hp49
          refine J_if_eq_b C (tgt := 61) dX5_kinds_52 (by decide) (fun c52 => ?_) (fun c52 => ?_)
          · skip
            refine J_iconst C (v := nI 0) dX5_kinds_61 (by decide) ?_
            refine J_ior C (v := nI (bits (fun v => soR (A.1.1, up2 A.1.2 2 mn v) A.2.2.1.2 A.2.2.1.1) (v + 1))) dX5_kinds_62 (or_no (p := (fun v => soR (A.1.1, up2 A.1.2 2 mn v) A.2.2.1.2 A.2.2.1.1)) (by simp only [c52, Bool.and_false]; decide)) ?_
            refine J_istore_n C (L' := [some (.ref (Z.2.1 0)), some (.int (nI mn)), some (.int (nI (bits (fun v => soR (A.1.1, up2 A.1.2 2 mn v) A.2.2.1.2 A.2.2.1.1) (v + 1)))), some (.int (nI v))]) dX5_kinds_63 rfl (by decide) rfl rfl ?_
            refine J_iinc C (v := nI (v + 1)) (L' := [some (.ref (Z.2.1 0)), some (.int (nI mn)), some (.int (nI (bits (fun v => soR (A.1.1, up2 A.1.2 2 mn v) A.2.2.1.2 A.2.2.1.1) (v + 1)))), some (.int (nI (v + 1)))]) dX5_kinds_64 rfl (nI_1 _) (by decide) rfl rfl ?_
            refine J_goto (tgt := 25) C dX5_kinds_67 (by decide) ?_
            refine J_drop ?_ (ih25 (v + 1) v y2 (by omega) (by omega) hyA2 hyc2 hyr2 (by omega))
            exact ⟨rfl, rfl, rfl, rfl, trivial⟩
          · skip
            refine J_iconst C (v := nI 1) dX5_kinds_55 (by decide) ?_
            refine J_iload_n C dX5_kinds_56 rfl rfl ?_
            refine J_ishl C (v := nI (2 ^ v)) dX5_kinds_57 (sh1 _ (by omega)) ?_
            refine J_goto (tgt := 62) C dX5_kinds_58 (by decide) ?_
            refine J_ior C (v := nI (bits (fun v => soR (A.1.1, up2 A.1.2 2 mn v) A.2.2.1.2 A.2.2.1.1) (v + 1))) dX5_kinds_62 (bits_or (p := (fun v => soR (A.1.1, up2 A.1.2 2 mn v) A.2.2.1.2 A.2.2.1.1)) (by exact c52)) ?_
            refine J_istore_n C (L' := [some (.ref (Z.2.1 0)), some (.int (nI mn)), some (.int (nI (bits (fun v => soR (A.1.1, up2 A.1.2 2 mn v) A.2.2.1.2 A.2.2.1.1) (v + 1)))), some (.int (nI v))]) dX5_kinds_63 rfl (by decide) rfl rfl ?_
            refine J_iinc C (v := nI (v + 1)) (L' := [some (.ref (Z.2.1 0)), some (.int (nI mn)), some (.int (nI (bits (fun v => soR (A.1.1, up2 A.1.2 2 mn v) A.2.2.1.2 A.2.2.1.1) (v + 1)))), some (.int (nI (v + 1)))]) dX5_kinds_64 rfl (nI_1 _) (by decide) rfl rfl ?_
            refine J_goto (tgt := 25) C dX5_kinds_67 (by decide) ?_
            refine J_drop ?_ (ih25 (v + 1) v y2 (by omega) (by omega) hyA2 hyc2 hyr2 (by omega))
            exact ⟨rfl, rfl, rfl, rfl, trivial⟩
    refine J_drop ?_ (lp25 (3 + 1) 0 (A.1.2 2 mn) x18 (by omega) (by omega) hA2 hc2 (by rw [up2_same]; exact hb18) (by omega))
    exact ⟨rfl, rfl, rfl, rfl, trivial⟩
  · skip
    refine J_iconst C (v := (-1)) dX5_kinds_8 (by decide) ?_
    exact E dX5_kinds_9 (⟨by rw [R_kinds, if_neg c5], hA⟩)
def rm_X5_streams : Room := ({ frames := 5, cells := 0, slots := 0, locals := 115 })
set_option maxRecDepth 20000 in
theorem c_X5_streams (l : Launch) (Z : EC) (x : St) (A : AB) (hA : AbsC x A) (hk : AOK A)  : MIi l Z (wC Z) yX5_streams cX5_streams 3 rm_X5_streams [.ref (Z.2.1 0)] x (fun r x1 => r = R_streams A  ∧ AbsC x1 A) := by
  obtain ⟨⟨hcur, htr, hne, hr⟩, hH, hR, hT, hF⟩ := id hA
  obtain ⟨ok, hkH, hkR, hkr⟩ := id hk
  obtain ⟨ok0, ok1, ok2, ok3, ok4, ok5, ok6, ok7⟩ := id ok
  refine MIi_of (own := RX5) (L0 := [some (.ref (Z.2.1 0)), none, none]) (by decide) rfl (Nat.le_of_ble_eq_true rfl) ⟨rfl, trivial⟩ ?_
  intro Γ C E
  refine J_aload_n C dX5_streams_0 rfl rfl ?_
  refine J_callVz C (q0 := 0) (ci := 5) (N := 8) (As := []) (c_X5_hasShore l Z _ A.1 hA.1 ok) cw_RX5_254 wd_15_13 wd_15_14 rfl rfl rfl rfl (Nat.le_of_ble_eq_true rfl) rfl rfl (Nat.le_of_ble_eq_true rfl) (Nat.le_of_ble_eq_true rfl) dX5_streams_1 (fun b1 x1 hp1 => ?_)
  obtain ⟨rfl, rfl⟩ := hp1
  refine J_if_ne_d C (tgt := 10) dX5_streams_4 (by decide) (fun c4 => ?_) (fun c4 => ?_)
  · skip
    refine J_aload_n C dX5_streams_10 rfl rfl ?_
    refine G5_trial C wd_2_8 dX5_streams_11 ?_
    rw [show x.2.2.2.1 = x.2.2.2.1 from rfl]
    refine J_aload_n C dX5_streams_14 rfl rfl ?_
    refine G5_shore C wd_2_7 dX5_streams_15 ?_
    refine J_callVv C (N := 10) (As := [.ref (Z.2.1 (25 + 6 * x.2.2.1))]) (c_X4_become l Z _ htr hcur (Ne.symm hne) hr ok) cw_RX5_179 wd_22_21 wd_22_22 (at_shore htr) rfl rfl rfl (Nat.le_of_ble_eq_true rfl) rfl rfl (Nat.le_of_ble_eq_true rfl) (Nat.le_of_ble_eq_true rfl) dX5_streams_18 (fun x18 hp18 => ?_)
    obtain ⟨hb18, hf18⟩ := hp18
    have hA2 := hf18.abs htr (Ne.symm hne) hA
    have hc2 := hf18.1
    refine J_iconst C (v := nI 0) dX5_streams_21 (by decide) ?_
    refine J_istore_n C (L' := [some (.ref (Z.2.1 0)), some (.int (nI 0)), none]) dX5_streams_22 rfl (by decide) rfl rfl ?_
    refine J_iconst C (v := nI 1) dX5_streams_23 (by decide) ?_
    refine J_istore_n C (L' := [some (.ref (Z.2.1 0)), some (.int (nI 0)), some (.int (nI 1))]) dX5_streams_24 rfl (by decide) rfl rfl ?_
    have lp25 : ∀ (f : Nat) (v u : Nat) (y : St), (1 ≤ v) → (v ≤ 4) → (AbsC y A) → (y.2.2 = x.2.2) → (ShR y x.2.2.2.1 (up1 A.1.1 0 u, A.1.2)) → (4 - v < f) →  J Γ y 25 [some (.ref (Z.2.1 0)), some (.int (nI (bits (fun v => decide (1 ≤ v) && soR (up1 A.1.1 0 v, A.1.2) A.2.2.1.2 A.2.2.1.1) v))), some (.int (nI v))] [] := by
      intro f
      induction f with
      | zero =>
        intro v u y hv0 hv hyA hyc hyr hf
        omega
      | succ f ih25 =>
        intro v u y hv0 hv hyA hyc hyr hf
        have hyH := hyA.2.1
        obtain ⟨⟨hyc1, hyt1, hyn1, hyr1⟩, hyH2, hyR, hyT, hyF⟩ := id hyA
        refine J_iload_n C dX5_streams_25 rfl rfl ?_
        refine J_iconst C (v := nI 3) dX5_streams_26 (by decide) ?_
        refine J_icmp_gt_n C (tgt := 68) dX5_streams_27 (by decide) (by omega) (by omega) (fun c27 => ?_) (fun c27 => ?_)
        · skip
          refine J_iload_n C dX5_streams_68 rfl rfl ?_
          exact E dX5_streams_69 (⟨by rw [R_streams, if_neg (show ¬ A.1.1 3 = 0 by omega), show v = 4 by omega], hyA⟩)
        · skip
          refine J_aload_n C dX5_streams_30 rfl rfl ?_
          refine G5_trial C wd_2_8 dX5_streams_31 ?_
          rw [show y.2.2.2.1 = x.2.2.2.1 from by rw [hyc]]
          refine J_iload_n C dX5_streams_34 rfl rfl ?_
          refine P4_stream htr C wd_15_7 dX5_streams_35 ?_
          have hyr2 : ShR (setI y (21 + 5 * x.2.2.2.1) (nI v)) x.2.2.2.1 (up1 A.1.1 0 v, A.1.2) := by have g : ShR (setI y (21 + 5 * x.2.2.2.1) (nI v)) x.2.2.2.1 (up1 (up1 A.1.1 0 u) 0 v, A.1.2) := hyr.setI (i := 0) (v := v) (by omega); rw [up1_up1] at g; exact g
          have hyf2 : FRW x.2.2.2.1 y (setI y (21 + 5 * x.2.2.2.1) (nI v)) := FRW.int (by omega) (by omega)
          have hyA2 := hyf2.abs htr (by rw [hyc]; exact Ne.symm hne) hyA
          have hyc2 := hyf2.1.trans hyc
          have hyR2 := hyA2.2.2.1
          generalize setI y (21 + 5 * x.2.2.2.1) (nI v) = y2 at hyr2 hyf2 hyA2 hyc2 hyR2 ⊢
          refine J_iload_n C dX5_streams_38 rfl rfl ?_
          refine J_aload_n C dX5_streams_39 rfl rfl ?_
          refine G5_readings C wd_1_23 dX5_streams_40 ?_
          refine J_aload_n C dX5_streams_43 rfl rfl ?_
          refine G5_trial C wd_2_8 dX5_streams_44 ?_
          rw [show y2.2.2.2.1 = x.2.2.2.1 from by rw [hyc2]]
          refine J_callVz C (q0 := 11) (ci := 1) (N := 4) (As := [.ref (Z.2.1 (25 + 6 * x.2.2.2.1))]) (c_X1_areSoIn l Z _ htr hyr2 (sok_up1 (v := v) ok (by omega) (by omega)) A.2.2.1 hyR2 hkR (fun j hj => hkr j hj)) cw_RX5_250 wd_30_2 wd_30_3 rfl rfl rfl rfl (Nat.le_of_ble_eq_true rfl) rfl rfl (Nat.le_of_ble_eq_true rfl) (Nat.le_of_ble_eq_true rfl) dX5_streams_47 (fun b47 x47 hp47 => ?_)
          obtain ⟨rfl, rfl⟩ := hp47
          refine J_if_eq_b C (tgt := 59) dX5_streams_50 (by decide) (fun c50 => ?_) (fun c50 => ?_)
          · skip
            refine J_iconst C (v := nI 0) dX5_streams_59 (by decide) ?_
            refine J_ior C (v := nI (bits (fun v => decide (1 ≤ v) && soR (up1 A.1.1 0 v, A.1.2) A.2.2.1.2 A.2.2.1.1) (v + 1))) dX5_streams_60 (or_no (p := (fun v => decide (1 ≤ v) && soR (up1 A.1.1 0 v, A.1.2) A.2.2.1.2 A.2.2.1.1)) (by simp only [c50, Bool.and_false]; decide)) ?_
            refine J_istore_n C (L' := [some (.ref (Z.2.1 0)), some (.int (nI (bits (fun v => decide (1 ≤ v) && soR (up1 A.1.1 0 v, A.1.2) A.2.2.1.2 A.2.2.1.1) (v + 1)))), some (.int (nI v))]) dX5_streams_61 rfl (by decide) rfl rfl ?_
            refine J_iinc C (v := nI (v + 1)) (L' := [some (.ref (Z.2.1 0)), some (.int (nI (bits (fun v => decide (1 ≤ v) && soR (up1 A.1.1 0 v, A.1.2) A.2.2.1.2 A.2.2.1.1) (v + 1)))), some (.int (nI (v + 1)))]) dX5_streams_62 rfl (nI_1 _) (by decide) rfl rfl ?_
            refine J_goto (tgt := 25) C dX5_streams_65 (by decide) ?_
            refine J_drop ?_ (ih25 (v + 1) v y2 (by omega) (by omega) hyA2 hyc2 hyr2 (by omega))
            exact ⟨rfl, rfl, rfl, trivial⟩
          · skip
            refine J_iconst C (v := nI 1) dX5_streams_53 (by decide) ?_
            refine J_iload_n C dX5_streams_54 rfl rfl ?_
            refine J_ishl C (v := nI (2 ^ v)) dX5_streams_55 (sh1 _ (by omega)) ?_
            refine J_goto (tgt := 60) C dX5_streams_56 (by decide) ?_
            refine J_ior C (v := nI (bits (fun v => decide (1 ≤ v) && soR (up1 A.1.1 0 v, A.1.2) A.2.2.1.2 A.2.2.1.1) (v + 1))) dX5_streams_60 (bits_or (p := (fun v => decide (1 ≤ v) && soR (up1 A.1.1 0 v, A.1.2) A.2.2.1.2 A.2.2.1.1)) (by simp only [Bool.and_eq_true, decide_eq_true_eq]; exact ⟨hv0, c50⟩)) ?_
            refine J_istore_n C (L' := [some (.ref (Z.2.1 0)), some (.int (nI (bits (fun v => decide (1 ≤ v) && soR (up1 A.1.1 0 v, A.1.2) A.2.2.1.2 A.2.2.1.1) (v + 1)))), some (.int (nI v))]) dX5_streams_61 rfl (by decide) rfl rfl ?_
            refine J_iinc C (v := nI (v + 1)) (L' := [some (.ref (Z.2.1 0)), some (.int (nI (bits (fun v => decide (1 ≤ v) && soR (up1 A.1.1 0 v, A.1.2) A.2.2.1.2 A.2.2.1.1) (v + 1)))), some (.int (nI (v + 1)))]) dX5_streams_62 rfl (nI_1 _) (by decide) rfl rfl ?_
            refine J_goto (tgt := 25) C dX5_streams_65 (by decide) ?_
            refine J_drop ?_ (ih25 (v + 1) v y2 (by omega) (by omega) hyA2 hyc2 hyr2 (by omega))
            exact ⟨rfl, rfl, rfl, trivial⟩
    refine J_drop ?_ (lp25 (4 + 1) 1 (A.1.1 0) x18 (by omega) (by omega) hA2 hc2 (by rw [up1_same]; exact hb18) (by omega))
    exact ⟨rfl, bits1V (by simp), rfl, trivial⟩
  · skip
    refine J_bipush C (v := (-3)) dX5_streams_7 (by decide) ?_
    exact E dX5_streams_9 (⟨by rw [R_streams, if_pos (show A.1.1 3 = 0 by omega)], hA⟩)
def rm_X5_pairsOfTides : Room := ({ frames := 4, cells := 0, slots := 0, locals := 93 })
set_option maxRecDepth 20000 in
theorem c_X5_pairsOfTides (l : Launch) (Z : EC) (x : St) (a : SA) (hs : CS x a) (ok : SOK a) (m q : Nat) (hm : m < a.1 4) (hq : q < a.1 3) : MIi l Z (wC Z) yX5_pairsOfTides cX5_pairsOfTides 8 rm_X5_pairsOfTides [.ref (Z.2.1 0), .int (nI m), .int (nI q)] x (fun r x1 => r = nI (pairs a m q 100) ∧ x = x1) := by
  obtain ⟨ok0, ok1, ok2, ok3, ok4, ok5, ok6, ok7⟩ := id ok
  have gm := ok6 m hm
  have hs1 := ok7 (by omega)
  refine MIi_of (own := RX5) (L0 := [some (.ref (Z.2.1 0)), some (.int (nI m)), some (.int (nI q)), none, none, none, none, none]) (by decide) rfl (Nat.le_of_ble_eq_true rfl) ⟨rfl, rfl, rfl, trivial⟩ ?_
  intro Γ C E
  refine J_aload_n C dX5_pairsOfTides_0 rfl rfl ?_
  refine G5_shore C wd_2_7 dX5_pairsOfTides_1 ?_
  refine G4_kindOf hs.1 C wd_12_22 dX5_pairsOfTides_4 ?_
  refine J_iload_n C dX5_pairsOfTides_7 rfl rfl ?_
  refine L4n_kindOf hs.1 hs.2.2.2 ok C (by omega) dX5_pairsOfTides_8 ?_
  refine J_istore_n C (L' := [some (.ref (Z.2.1 0)), some (.int (nI m)), some (.int (nI q)), some (.int (nI (a.2 2 m))), none, none, none, none]) dX5_pairsOfTides_9 rfl (by decide) rfl rfl ?_
  refine J_iconst C (v := nI 0) dX5_pairsOfTides_10 (by decide) ?_
  refine J_istore C (L' := [some (.ref (Z.2.1 0)), some (.int (nI m)), some (.int (nI q)), some (.int (nI (a.2 2 m))), some (.int (nI 0)), none, none, none]) dX5_pairsOfTides_11 (by decide) rfl rfl ?_
  refine J_iconst C (v := nI 0) dX5_pairsOfTides_13 (by decide) ?_
  refine J_istore C (L' := [some (.ref (Z.2.1 0)), some (.int (nI m)), some (.int (nI q)), some (.int (nI (a.2 2 m))), some (.int (nI 0)), some (.int (nI 0)), none, none]) dX5_pairsOfTides_14 (by decide) rfl rfl ?_
  have lp16 : ∀ (f : Nat) (i : Nat), (i ≤ 10) → (10 - i < f) →  J Γ x 16 [some (.ref (Z.2.1 0)), some (.int (nI m)), some (.int (nI q)), some (.int (nI (a.2 2 m))), some (.int (nI (pairs a m q (10 * i)))), some (.int (nI i)), none, none] [] := by
    intro f
    induction f with
    | zero =>
      intro i hi hf
      omega
    | succ f ih16 =>
      intro i hi hf
      refine J_iload C dX5_pairsOfTides_16 rfl ?_
      refine J_bipush C (v := nI 9) dX5_pairsOfTides_18 (by decide) ?_
      refine J_icmp_gt_n C (tgt := 86) dX5_pairsOfTides_20 (by decide) (by omega) (by omega) (fun c20 => ?_) (fun c20 => ?_)
      · skip
        refine J_iload C dX5_pairsOfTides_86 rfl ?_
        exact E dX5_pairsOfTides_88 (⟨by rw [show i = 10 by omega], rfl⟩)
      · skip
        refine J_aload_n C dX5_pairsOfTides_23 rfl rfl ?_
        refine G5_shore C wd_2_7 dX5_pairsOfTides_24 ?_
        refine J_iload_n C dX5_pairsOfTides_27 rfl rfl ?_
        refine J_iload C dX5_pairsOfTides_28 rfl ?_
        refine J_callVi C (N := 10) (As := [.int (nI m), .int (nI i)]) (c_X4_seatBehind l Z _ hs.1 hs.2.2.2 ok _ _ hm (by omega)) cw_RX5_143 wd_17_15 wd_17_16 (at_shore hs.1) rfl rfl rfl (Nat.le_of_ble_eq_true rfl) rfl rfl (Nat.le_of_ble_eq_true rfl) (Nat.le_of_ble_eq_true rfl) dX5_pairsOfTides_30 (fun r30 x30 hp30 => ?_)
        obtain ⟨rfl, rfl⟩ := hp30
        refine J_istore C (L' := [some (.ref (Z.2.1 0)), some (.int (nI m)), some (.int (nI q)), some (.int (nI (a.2 2 m))), some (.int (nI (pairs a m q (10 * i)))), some (.int (nI i)), some (.int (nI (carry a (a.2 3 m) (a.2 2 m) i))), none]) dX5_pairsOfTides_33 (by decide) rfl rfl ?_
        refine J_iconst C (v := nI 0) dX5_pairsOfTides_35 (by decide) ?_
        refine J_istore C (L' := [some (.ref (Z.2.1 0)), some (.int (nI m)), some (.int (nI q)), some (.int (nI (a.2 2 m))), some (.int (nI (pairs a m q (10 * i)))), some (.int (nI i)), some (.int (nI (carry a (a.2 3 m) (a.2 2 m) i))), some (.int (nI 0))]) dX5_pairsOfTides_36 (by decide) rfl rfl ?_
        have lp38 : ∀ (f : Nat) (j : Nat), (j ≤ 10) → (10 - j < f) →  J Γ x 38 [some (.ref (Z.2.1 0)), some (.int (nI m)), some (.int (nI q)), some (.int (nI (a.2 2 m))), some (.int (nI (pairs a m q (10 * i + j)))), some (.int (nI i)), some (.int (nI (carry a (a.2 3 m) (a.2 2 m) i))), some (.int (nI j))] [] := by
          intro f
          induction f with
          | zero =>
            intro j hj hf2
            omega
          | succ f ih38 =>
            intro j hj hf2
            refine J_iload C dX5_pairsOfTides_38 rfl ?_
            refine J_bipush C (v := nI 9) dX5_pairsOfTides_40 (by decide) ?_
            refine J_icmp_gt_n C (tgt := 80) dX5_pairsOfTides_42 (by decide) (by omega) (by omega) (fun c42 => ?_) (fun c42 => ?_)
            · skip
              refine J_iinc C (v := nI (i + 1)) (L' := [some (.ref (Z.2.1 0)), some (.int (nI m)), some (.int (nI q)), some (.int (nI (a.2 2 m))), some (.int (nI (pairs a m q (10 * i + j)))), some (.int (nI (i + 1))), some (.int (nI (carry a (a.2 3 m) (a.2 2 m) i))), some (.int (nI j))]) dX5_pairsOfTides_80 rfl (nI_1 _) (by decide) rfl rfl ?_
              refine J_goto (tgt := 16) C dX5_pairsOfTides_83 (by decide) ?_
              refine J_drop ?_ (ih16 (i + 1) (by omega) (by omega))
              exact ⟨rfl, rfl, rfl, rfl, by rw [show j = 10 by omega, show 10 * i + 10 = 10 * (i + 1) by omega], rfl, trivial⟩
            · skip
              have hcl : carry a (a.2 3 m) (a.2 2 m) i < a.1 3 := carry_lt gm.2.1
              have hpl := pairs_le a m q (10 * i + j)
              refine J_iload C dX5_pairsOfTides_45 rfl ?_
              refine J_aload_n C dX5_pairsOfTides_47 rfl rfl ?_
              refine G5_shore C wd_2_7 dX5_pairsOfTides_48 ?_
              refine J_iload C dX5_pairsOfTides_51 rfl ?_
              refine J_iload_n C dX5_pairsOfTides_53 rfl rfl ?_
              refine J_iload C dX5_pairsOfTides_54 rfl ?_
              refine J_callVi C (N := 10) (As := [.int (nI (carry a (a.2 3 m) (a.2 2 m) i)), .int (nI (a.2 2 m)), .int (nI j)]) (c_X4_poolBehind l Z _ hs.1 hs.2.2.2 ok _ _ _ hcl gm.1 (by omega)) cw_RX5_243 wd_17_19 wd_17_20 (at_shore hs.1) rfl rfl rfl (Nat.le_of_ble_eq_true rfl) rfl rfl (Nat.le_of_ble_eq_true rfl) (Nat.le_of_ble_eq_true rfl) dX5_pairsOfTides_56 (fun r56 x56 hp56 => ?_)
              obtain ⟨rfl, rfl⟩ := hp56
              have hc2 : carry a (carry a (a.2 3 m) (a.2 2 m) i) (a.2 2 m) j < a.1 3 := carry_lt hcl
              refine J_iload_n C dX5_pairsOfTides_59 rfl rfl ?_
              refine J_icmp_ne_n C (tgt := 67) dX5_pairsOfTides_60 (by decide) (by omega) (by omega) (fun c60 => ?_) (fun c60 => ?_)
              · skip
                refine J_iconst C (v := nI 0) dX5_pairsOfTides_67 (by decide) ?_
                refine J_callSi C (As := [.int (nI 0)]) (c_X5_oneIf l Z _ _ (by decide)) cw_RX5_159 wd_18_20 rfl rfl (Nat.le_of_ble_eq_true rfl) rfl rfl (Nat.le_of_ble_eq_true rfl) (Nat.le_of_ble_eq_true rfl) dX5_pairsOfTides_68 (fun r68 x68 hp68 => ?_)
                obtain ⟨rfl, rfl⟩ := hp68
                refine J_iadd C (v := nI (pairs a m q (10 * i + (j + 1)))) dX5_pairsOfTides_71 (pairs_no (by omega) c60) ?_
                refine J_istore C (L' := [some (.ref (Z.2.1 0)), some (.int (nI m)), some (.int (nI q)), some (.int (nI (a.2 2 m))), some (.int (nI (pairs a m q (10 * i + (j + 1))))), some (.int (nI i)), some (.int (nI (carry a (a.2 3 m) (a.2 2 m) i))), some (.int (nI j))]) dX5_pairsOfTides_72 (by decide) rfl rfl ?_
                refine J_iinc C (v := nI (j + 1)) (L' := [some (.ref (Z.2.1 0)), some (.int (nI m)), some (.int (nI q)), some (.int (nI (a.2 2 m))), some (.int (nI (pairs a m q (10 * i + (j + 1))))), some (.int (nI i)), some (.int (nI (carry a (a.2 3 m) (a.2 2 m) i))), some (.int (nI (j + 1)))]) dX5_pairsOfTides_74 rfl (nI_1 _) (by decide) rfl rfl ?_
                refine J_goto (tgt := 38) C dX5_pairsOfTides_77 (by decide) ?_
                refine J_drop ?_ (ih38 (j + 1) (by omega) (by omega))
                exact ⟨rfl, rfl, rfl, rfl, rfl, rfl, rfl, rfl, trivial⟩
              · skip
                refine J_iconst C (v := nI 1) dX5_pairsOfTides_63 (by decide) ?_
                refine J_goto (tgt := 68) C dX5_pairsOfTides_64 (by decide) ?_
                refine J_callSi C (As := [.int (nI 1)]) (c_X5_oneIf l Z _ _ (by decide)) cw_RX5_159 wd_18_20 rfl rfl (Nat.le_of_ble_eq_true rfl) rfl rfl (Nat.le_of_ble_eq_true rfl) (Nat.le_of_ble_eq_true rfl) dX5_pairsOfTides_68 (fun r68 x68 hp68 => ?_)
                obtain ⟨rfl, rfl⟩ := hp68
                refine J_iadd C (v := nI (pairs a m q (10 * i + (j + 1)))) dX5_pairsOfTides_71 (pairs_yes (by omega) c60) ?_
                refine J_istore C (L' := [some (.ref (Z.2.1 0)), some (.int (nI m)), some (.int (nI q)), some (.int (nI (a.2 2 m))), some (.int (nI (pairs a m q (10 * i + (j + 1))))), some (.int (nI i)), some (.int (nI (carry a (a.2 3 m) (a.2 2 m) i))), some (.int (nI j))]) dX5_pairsOfTides_72 (by decide) rfl rfl ?_
                refine J_iinc C (v := nI (j + 1)) (L' := [some (.ref (Z.2.1 0)), some (.int (nI m)), some (.int (nI q)), some (.int (nI (a.2 2 m))), some (.int (nI (pairs a m q (10 * i + (j + 1))))), some (.int (nI i)), some (.int (nI (carry a (a.2 3 m) (a.2 2 m) i))), some (.int (nI (j + 1)))]) dX5_pairsOfTides_74 rfl (nI_1 _) (by decide) rfl rfl ?_
                refine J_goto (tgt := 38) C dX5_pairsOfTides_77 (by decide) ?_
                refine J_drop ?_ (ih38 (j + 1) (by omega) (by omega))
                exact ⟨rfl, rfl, rfl, rfl, rfl, rfl, rfl, rfl, trivial⟩
        refine J_drop ?_ (lp38 (10 + 1) 0 (by omega) (by omega))
        exact ⟨rfl, rfl, rfl, rfl, rfl, rfl, rfl, rfl, trivial⟩
  refine J_drop ?_ (lp16 (10 + 1) 0 (by omega) (by omega))
  exact ⟨rfl, rfl, rfl, rfl, rfl, rfl, trivial⟩
def rm_X5_commonDivisor : Room := ({ frames := 0, cells := 0, slots := 0, locals := 0 })
set_option maxRecDepth 20000 in
theorem c_X5_commonDivisor (l : Launch) (Z : EC) (x : St) (u : Nat) (hu : u ≤ 100) : MIi l Z (wC Z) yX5_commonDivisor cX5_commonDivisor 3 rm_X5_commonDivisor [.int (nI u), .int (nI 100)] x (fun r x1 => r = nI (gcd100 u 100) ∧ x = x1) := by
  refine MIi_of (own := RX5) (L0 := [some (.int (nI u)), some (.int (nI 100)), none]) (by decide) rfl (Nat.le_of_ble_eq_true rfl) ⟨rfl, rfl, trivial⟩ ?_
  intro Γ C E
  refine J_iload_n C dX5_commonDivisor_0 rfl rfl ?_
  refine J_istore_n C (L' := [some (.int (nI u)), some (.int (nI 100)), some (.int (nI 100))]) dX5_commonDivisor_1 rfl (by decide) rfl rfl ?_
  have lp2 : ∀ (f : Nat) (d : Nat), (d ≤ 100) → (gcd100 u d = gcd100 u 100) → (d < f) →  J Γ x 2 [some (.int (nI u)), some (.int (nI 100)), some (.int (nI d))] [] := by
    intro f
    induction f with
    | zero =>
      intro d hd hv hf
      omega
    | succ f ih2 =>
      intro d hd hv hf
      refine J_iload_n C dX5_commonDivisor_2 rfl rfl ?_
      refine J_iconst C (v := nI 1) dX5_commonDivisor_3 (by decide) ?_
      refine J_icmp_le_n C (tgt := 27) dX5_commonDivisor_4 (by decide) (by omega) (by omega) (fun c4 => ?_) (fun c4 => ?_)
      · skip
        refine J_iconst C (v := nI 1) dX5_commonDivisor_27 (by decide) ?_
        exact E dX5_commonDivisor_28 (⟨by rw [← hv, gcd_end (by omega)], rfl⟩)
      · skip
        refine J_iload_n C dX5_commonDivisor_7 rfl rfl ?_
        refine J_iload_n C dX5_commonDivisor_8 rfl rfl ?_
        refine J_irem C (v := nI (u % d)) dX5_commonDivisor_9 (nI_ne0 (by omega) (by omega)) (pk_rem (by omega) (by omega) (by omega)) ?_
        have hmod := Nat.mod_le u d
        refine J_if_ne_n C (tgt := 21) dX5_commonDivisor_10 (by decide) (by omega) (fun c10 => ?_) (fun c10 => ?_)
        · skip
          refine J_iinc C (v := nI (d - 1)) (L' := [some (.int (nI u)), some (.int (nI 100)), some (.int (nI (d - 1)))]) dX5_commonDivisor_21 rfl (nI_dec (by omega)) (by decide) rfl rfl ?_
          refine J_goto (tgt := 2) C dX5_commonDivisor_24 (by decide) ?_
          refine J_drop ?_ (ih2 (d - 1) (by omega) (by rw [← hv, gcd_m1 (by omega) c10]) (by omega))
          exact ⟨rfl, rfl, rfl, trivial⟩
        · skip
          refine J_iload_n C dX5_commonDivisor_13 rfl rfl ?_
          refine J_iload_n C dX5_commonDivisor_14 rfl rfl ?_
          refine J_irem C (v := nI (100 % d)) dX5_commonDivisor_15 (nI_ne0 (by omega) (by omega)) (pk_rem (by omega) (by omega) (by omega)) ?_
          have hmod2 := Nat.mod_le 100 d
          refine J_if_ne_n C (tgt := 21) dX5_commonDivisor_16 (by decide) (by omega) (fun c16 => ?_) (fun c16 => ?_)
          · skip
            refine J_iinc C (v := nI (d - 1)) (L' := [some (.int (nI u)), some (.int (nI 100)), some (.int (nI (d - 1)))]) dX5_commonDivisor_21 rfl (nI_dec (by omega)) (by decide) rfl rfl ?_
            refine J_goto (tgt := 2) C dX5_commonDivisor_24 (by decide) ?_
            refine J_drop ?_ (ih2 (d - 1) (by omega) (by rw [← hv, gcd_m2 (by omega) c10 c16]) (by omega))
            exact ⟨rfl, rfl, rfl, trivial⟩
          · skip
            refine J_iload_n C dX5_commonDivisor_19 rfl rfl ?_
            exact E dX5_commonDivisor_20 (⟨by rw [← hv, gcd_hit (by omega) c10 c16], rfl⟩)
  refine J_drop ?_ (lp2 (100 + 1) 100 (by omega) rfl (by omega))
  exact ⟨rfl, rfl, rfl, trivial⟩
def rm_X5_odds : Room := ({ frames := 5, cells := 0, slots := 0, locals := 120 })
set_option maxRecDepth 20000 in
theorem c_X5_odds (l : Launch) (Z : EC) (x : St) (A : AB) (hA : AbsC x A) (hk : AOK A) (m q w : Int32) : MIl l Z (wC Z) yX5_odds cX5_odds 7 rm_X5_odds [.ref (Z.2.1 0), .int m, .int q, .int w] x (fun r x1 => r = R_odds A m q w ∧ AbsC x1 A) := by
  obtain ⟨⟨hcur, htr, hne, hr⟩, hH, hR, hT, hF⟩ := id hA
  obtain ⟨ok, hkH, hkR, hkr⟩ := id hk
  obtain ⟨ok0, ok1, ok2, ok3, ok4, ok5, ok6, ok7⟩ := id ok
  refine MIl_of (own := RX5) (L0 := [some (.ref (Z.2.1 0)), some (.int m), some (.int q), some (.int w), none, none, none]) (by decide) rfl (Nat.le_of_ble_eq_true rfl) ⟨rfl, rfl, rfl, rfl, trivial⟩ ?_
  intro Γ C E
  refine J_aload_n C dX5_odds_0 rfl rfl ?_
  refine J_iload_n C dX5_odds_1 rfl rfl ?_
  refine J_callVz C (q0 := 0) (ci := 5) (N := 8) (As := [.int m]) (c_X5_isMember l Z _ A.1 hA.1 ok _) cw_RX5_105 wd_13_2 wd_13_3 rfl rfl rfl rfl (Nat.le_of_ble_eq_true rfl) rfl rfl (Nat.le_of_ble_eq_true rfl) (Nat.le_of_ble_eq_true rfl) dX5_odds_2 (fun b2 x2 hp2 => ?_)
  obtain ⟨rfl, rfl⟩ := hp2
  refine J_if_eq_d C (tgt := 25) dX5_odds_5 (by decide) (fun c5 => ?_) (fun c5 => ?_)
  · skip
    refine J_ldc2 C wd_31_10 dX5_odds_25 ?_
    exact E dX5_odds_28 (⟨by rw [R_odds, if_neg c5] <;> first | rfl | simp only [tnm, tnq], hA⟩)
  · skip
    obtain ⟨mn, hmn, rfl⟩ := rng_nat c5
    have tnm := tn_nI (n := mn) (by omega)
    have gm := ok6 mn hmn
    have hs1 := ok7 (by omega)
    refine J_aload_n C dX5_odds_8 rfl rfl ?_
    refine J_iload_n C dX5_odds_9 rfl rfl ?_
    refine J_callVz C (q0 := 0) (ci := 5) (N := 8) (As := [.int q]) (c_X5_isPool l Z _ A.1 hA.1 ok _) cw_RX5_89 wd_11_3 wd_11_4 rfl rfl rfl rfl (Nat.le_of_ble_eq_true rfl) rfl rfl (Nat.le_of_ble_eq_true rfl) (Nat.le_of_ble_eq_true rfl) dX5_odds_10 (fun b10 x10 hp10 => ?_)
    obtain ⟨rfl, rfl⟩ := hp10
    refine J_if_eq_d C (tgt := 25) dX5_odds_13 (by decide) (fun c13 => ?_) (fun c13 => ?_)
    · skip
      refine J_ldc2 C wd_31_10 dX5_odds_25 ?_
      exact E dX5_odds_28 (⟨by rw [R_odds, if_pos c5, if_neg c13] <;> first | rfl | simp only [tnm, tnq], hA⟩)
    · skip
      obtain ⟨qn, hqn, rfl⟩ := rng_nat c13
      have tnq := tn_nI (n := qn) (by omega)
      have gq := ok5 qn hqn
      refine J_iload_n C dX5_odds_16 rfl rfl ?_
      refine J_iconst C (v := nI 0) dX5_odds_17 (by decide) ?_
      refine J_iconst C (v := nI 1) dX5_odds_18 (by decide) ?_
      refine J_callSz C (As := [.int w, .int (nI 0), .int (nI 1)]) (c_X5_isWithin l Z _ _ _ _ (0) (1) (by decide) (by decide)) cw_RX5_120 wd_4_23 rfl rfl (Nat.le_of_ble_eq_true rfl) rfl rfl (Nat.le_of_ble_eq_true rfl) (Nat.le_of_ble_eq_true rfl) dX5_odds_19 (fun b19 x19 hp19 => ?_)
      obtain ⟨rfl, rfl⟩ := hp19
      refine J_if_ne_d C (tgt := 29) dX5_odds_22 (by decide) (fun c22 => ?_) (fun c22 => ?_)
      · skip
        refine J_aload_n C dX5_odds_29 rfl rfl ?_
        refine J_iload_n C dX5_odds_30 rfl rfl ?_
        refine J_iload_n C dX5_odds_31 rfl rfl ?_
        refine J_callVi C (q0 := 0) (ci := 5) (N := 8) (As := [.int (nI mn), .int (nI qn)]) (c_X5_pairsOfTides l Z _ A.1 hA.1 ok _ _ hmn hqn) cw_RX5_260 wd_31_12 wd_31_13 rfl rfl rfl rfl (Nat.le_of_ble_eq_true rfl) rfl rfl (Nat.le_of_ble_eq_true rfl) (Nat.le_of_ble_eq_true rfl) dX5_odds_32 (fun r32 x32 hp32 => ?_)
        obtain ⟨rfl, rfl⟩ := hp32
        have hpl := pairs_le A.1 mn qn 100
        have hgr := gcd_rng (pairs A.1 mn qn 100) 100
        refine J_istore C (L' := [some (.ref (Z.2.1 0)), some (.int (nI mn)), some (.int (nI qn)), some (.int w), some (.int (nI (pairs A.1 mn qn 100))), none, none]) dX5_odds_35 (by decide) rfl rfl ?_
        refine J_bipush C (v := nI 100) dX5_odds_37 (by decide) ?_
        refine J_istore C (L' := [some (.ref (Z.2.1 0)), some (.int (nI mn)), some (.int (nI qn)), some (.int w), some (.int (nI (pairs A.1 mn qn 100))), some (.int (nI 100)), none]) dX5_odds_39 (by decide) rfl rfl ?_
        refine J_iload C dX5_odds_41 rfl ?_
        refine J_iload C dX5_odds_43 rfl ?_
        refine J_callSi C (As := [.int (nI (pairs A.1 mn qn 100)), .int (nI 100)]) (c_X5_commonDivisor l Z _ _ hpl) cw_RX5_263 wd_31_16 rfl rfl (Nat.le_of_ble_eq_true rfl) rfl rfl (Nat.le_of_ble_eq_true rfl) (Nat.le_of_ble_eq_true rfl) dX5_odds_45 (fun r45 x45 hp45 => ?_)
        obtain ⟨rfl, rfl⟩ := hp45
        refine J_istore C (L' := [some (.ref (Z.2.1 0)), some (.int (nI mn)), some (.int (nI qn)), some (.int w), some (.int (nI (pairs A.1 mn qn 100))), some (.int (nI 100)), some (.int (nI (gcd100 (pairs A.1 mn qn 100) 100)))]) dX5_odds_48 (by decide) rfl rfl ?_
        refine J_iload_n C dX5_odds_50 rfl rfl ?_
        refine J_if_ne C (tgt := 59) dX5_odds_51 (by decide) (fun c51 => ?_) (fun c51 => ?_)
        · skip
          refine J_iload C dX5_odds_59 rfl ?_
          refine J_iload C dX5_odds_61 rfl ?_
          refine J_idiv C (v := nI (100 / (gcd100 (pairs A.1 mn qn 100) 100))) dX5_odds_63 (nI_ne0 (by omega) (by omega)) (pk_div (by omega) (by omega) (by omega)) ?_
          have hdl1 := Nat.div_le_self (pairs A.1 mn qn 100) (gcd100 (pairs A.1 mn qn 100) 100)
          have hdl2 := Nat.div_le_self 100 (gcd100 (pairs A.1 mn qn 100) 100)
          refine J_i2l C (v := lN (100 / gcd100 (pairs A.1 mn qn 100) 100)) dX5_odds_64 (nI_l (by omega)) ?_
          exact E dX5_odds_65 (⟨by rw [R_odds, if_pos c5, if_pos c13, if_pos c22, if_neg (show ¬ w = nI 0 from c51)] <;> first | rfl | simp only [tnm, tnq], hA⟩)
        · skip
          refine J_iload C dX5_odds_54 rfl ?_
          refine J_goto (tgt := 61) C dX5_odds_56 (by decide) ?_
          refine J_iload C dX5_odds_61 rfl ?_
          refine J_idiv C (v := nI ((pairs A.1 mn qn 100) / (gcd100 (pairs A.1 mn qn 100) 100))) dX5_odds_63 (nI_ne0 (by omega) (by omega)) (pk_div (by omega) (by omega) (by omega)) ?_
          have hdl1 := Nat.div_le_self (pairs A.1 mn qn 100) (gcd100 (pairs A.1 mn qn 100) 100)
          have hdl2 := Nat.div_le_self 100 (gcd100 (pairs A.1 mn qn 100) 100)
          refine J_i2l C (v := lN (pairs A.1 mn qn 100 / gcd100 (pairs A.1 mn qn 100) 100)) dX5_odds_64 (nI_l (by omega)) ?_
          exact E dX5_odds_65 (⟨by rw [R_odds, if_pos c5, if_pos c13, if_pos c22, if_pos (show w = nI 0 from c51)] <;> first | rfl | simp only [tnm, tnq], hA⟩)
      · skip
        refine J_ldc2 C wd_31_10 dX5_odds_25 ?_
        exact E dX5_odds_28 (⟨by rw [R_odds, if_pos c5, if_pos c13, if_neg c22] <;> first | rfl | simp only [tnm, tnq], hA⟩)
