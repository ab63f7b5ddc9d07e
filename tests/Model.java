import java.util.ArrayList;
import java.util.Arrays;
import java.util.Comparator;
import java.util.List;
import java.util.TreeSet;
import java.util.function.IntPredicate;
import java.util.regex.Matcher;
import java.util.regex.Pattern;

/**
 * A second reading of the document, written unlike the class: by regular expressions, by trying all rows,
 * and with the machine's own arrays, casts and inherited bodies, whose faults are the ones that the document names.
 */
public final class Model {
    private static final String POOL = ",[1-9][1-9]";

    /** An answer other than what was asked for. */
    private static final class Refused extends RuntimeException {
        private static final long serialVersionUID = 1;
        final int answer;

        Refused(int answer) {
            super(null, null, false, false);
            this.answer = answer;
        }
    }

    private interface Call {
        long answer();
    }

    private interface Named {
        int number();

        default int named(Model world) {
            world.leave(4);
            return number();
        }
    }

    private static class Shrimp implements Named {
        int number;
        int pool;
        int view;

        public int number() {
            return number;
        }

        int steps(int stream) {
            return stream;
        }

        int tell(Model world) {
            return shrimpTells(world);
        }

        final int shrimpTells(Model world) {
            world.leave(1);
            return view;
        }
    }

    private static class Crab extends Shrimp {
        @Override int steps(int stream) {
            return stream - 1;
        }

        @Override int tell(Model world) {
            world.leave(2);
            return super.tell(world) + 100;
        }
    }

    private static final class Limpet extends Crab {
        @Override int steps(int stream) {
            return stream == 1 ? 0 : 1;
        }

        @Override int tell(Model world) {
            world.leave(3);
            int crabs = super.tell(world);
            return crabs + shrimpTells(world);
        }

        @Override public int named(Model world) {
            world.leave(5);
            return 60;
        }
    }

    private static final class Pool {
        int height;
        int depth;
    }

    private final Object[] sheets = new Object[4];
    private final List<Pool> pools = new ArrayList<>();
    private final List<Shrimp> members = new ArrayList<>();
    private final List<int[]> told = new ArrayList<>();
    private int stream;
    private int mild;
    private int leap;
    private int trace;
    private int fault;

    void leave(int number) {
        trace = trace * 31 + number;
    }

    // ---- how calls are refused and come to faults

    private static void unknownUnless(boolean so) {
        unless(so, -1);
    }

    private static void outsideUnless(boolean so) {
        unless(so, -2);
    }

    private static void unless(boolean so, int answer) {
        if (!so) {
            throw new Refused(answer);
        }
    }

    private static long plain(Call call) {
        try {
            return call.answer();
        } catch (Refused refused) {
            return refused.answer;
        }
    }

    private long naming(Call call) {
        fault = 0;
        try {
            return call.answer();
        } catch (Refused refused) {
            return refused.answer;
        } catch (NullPointerException e) {
            fault = 1;
        } catch (ClassCastException | ArrayStoreException e) {
            fault = 2;
        } catch (IndexOutOfBoundsException e) {
            fault = 3;
        } catch (NegativeArraySizeException e) {
            fault = 4;
        }
        return -10 - fault;
    }

    private Pool pool(int q) {
        unknownUnless(q >= 0 && q < pools.size());
        return pools.get(q);
    }

    private Shrimp member(int m) {
        unknownUnless(m >= 0 && m < members.size());
        return members.get(m);
    }

    private void mustHaveShore() {
        unless(!pools.isEmpty(), -3);
    }

    private static boolean in(int v, int least, int most) {
        return least <= v && v <= most;
    }

    private static int lengthAs(Object row, int lane) {
        return lane == 0 ? ((byte[]) row).length : lane == 1 ? ((short[]) row).length : ((int[]) row).length;
    }

    private static int[] row(Object sheet, int lane, int i, int n) {
        int length = lengthAs(sheet, lane);
        int[] row = new int[n];
        Object empty = lane == 0 ? new byte[n] : lane == 1 ? new short[n] : new int[n];
        System.arraycopy(sheet, i, empty, 0, n);
        for (int k = 0; k < n && k < length; k++) {
            row[k] = at(empty, k);
        }
        return row;
    }

    private static int at(Object row, int i) {
        if (row instanceof byte[] bytes) {
            return bytes[i];
        }
        return row instanceof short[] shorts ? shorts[i] : ((int[]) row)[i];
    }

    // ---- 1 the shore

    public int shore(int sheet, int lane, int i, int n) {
        return (int) naming(() -> {
            unknownUnless(in(sheet, 0, 3));
            outsideUnless(in(lane, 0, 2));
            StringBuilder text = new StringBuilder();
            for (int code : row(sheets[sheet], lane, i, n)) {
                text.append(code > 0 && code < 128 ? (char) code : '?');
            }
            return build(text.toString());
        });
    }

    private int build(String text) {
        for (int poolCount = 2; poolCount <= 6; poolCount++) {
            if (text.matches(grammar(poolCount))) {
                return make(text);
            }
        }
        int longest = 0;
        for (int poolCount = 2; poolCount <= 6; poolCount++) {
            longest = Math.max(longest, goesOn(text, Pattern.compile(grammar(poolCount))));
        }
        return -100 - longest;
    }

    private static String grammar(int poolCount) {
        return "r[1-3][0-9][0-9](" + POOL + "){" + poolCount + "}(;[scl][0-" + (poolCount - 1) + "][0-9]){1,6}";
    }

    /** How many codes of the text begin some text of the grammar. */
    private static int goesOn(String text, Pattern grammar) {
        int longest = 0;
        for (int n = 1; n <= text.length(); n++) {
            Matcher matcher = grammar.matcher(text.substring(0, n));
            if (matcher.matches() || matcher.hitEnd()) {
                longest = n;
            }
        }
        return longest;
    }

    private int make(String text) {
        pools.clear();
        members.clear();
        told.clear();
        stream = text.charAt(1) - '0';
        mild = text.charAt(2) - '0';
        leap = text.charAt(3) - '0';
        String[] parts = text.substring(5).split(";");
        for (String part : parts[0].split(",")) {
            Pool pool = new Pool();
            pool.height = part.charAt(0) - '0';
            pool.depth = part.charAt(1) - '0';
            pools.add(pool);
        }
        for (int m = 1; m < parts.length; m++) {
            Shrimp member = ofKind("scl".indexOf(parts[m].charAt(0)));
            member.number = m - 1;
            member.pool = parts[m].charAt(1) - '0';
            member.view = parts[m].charAt(2) - '0';
            members.add(member);
        }
        return members.size();
    }

    private static Shrimp ofKind(int kind) {
        return kind == 0 ? new Shrimp() : kind == 1 ? new Crab() : new Limpet();
    }

    private static int kindOf(Shrimp member) {
        return member instanceof Limpet ? 2 : member instanceof Crab ? 1 : 0;
    }

    public int ofPool(int q, int what) {
        return (int) plain(() -> {
            Pool pool = pool(q);
            outsideUnless(in(what, 0, 3));
            int sitters = membersWho(m -> members.get(m).pool == q);
            int[] all = {pool.height, pool.depth, sitters, pool.depth * 6 / (1 + Integer.bitCount(sitters))};
            return all[what];
        });
    }

    private int membersWho(IntPredicate so) {
        int set = 0;
        for (int m = 0; m < members.size(); m++) {
            set += so.test(m) ? 1 << m : 0;
        }
        return set;
    }

    public int ofMember(int m, int what) {
        return (int) plain(() -> {
            Shrimp member = member(m);
            outsideUnless(in(what, 0, 3));
            return new int[] {kindOf(member), member.pool, member.view, member.steps(stream)}[what];
        });
    }

    public int raise(int q, int v) {
        return (int) plain(() -> {
            Pool pool = pool(q);
            outsideUnless(in(v, 1, 9));
            int old = pool.height;
            pool.height = v;
            return old;
        });
    }

    public int sway(int m, int v) {
        return (int) plain(() -> {
            Shrimp member = member(m);
            outsideUnless(in(v, 0, 9));
            int old = member.view;
            member.view = v;
            return old;
        });
    }

    public int seat(int m, int q) {
        return (int) plain(() -> {
            Shrimp member = member(m);
            pool(q);
            int old = member.pool;
            member.pool = q;
            return old;
        });
    }

    private void wholeShore(boolean so) {
        outsideUnless(so);
        mustHaveShore();
    }

    public int flow(int v) {
        return (int) plain(() -> {
            wholeShore(in(v, 1, 3));
            int old = stream;
            stream = v;
            return old;
        });
    }

    public int calm(int v) {
        return (int) plain(() -> {
            wholeShore(in(v, 0, 9));
            int old = mild;
            mild = v;
            return old;
        });
    }

    public int leap(int v) {
        return (int) plain(() -> {
            wholeShore(in(v, 0, 9));
            int old = leap;
            leap = v;
            return old;
        });
    }

    // ---- 2 tides, bills

    private List<Integer> wet(int h) {
        List<Integer> wet = new ArrayList<>();
        for (int q = 0; q < pools.size(); q++) {
            if (pools.get(q).height < h) {
                wet.add(q);
            }
        }
        return wet;
    }

    private int carriedFrom(int q, Shrimp member, int h) {
        List<Integer> wet = wet(h);
        int place = wet.indexOf(q);
        return place < 0 ? q : wet.get((place + member.steps(stream)) % wet.size());
    }

    public int washed(int h) {
        return (int) plain(() -> {
            wholeShore(in(h, 0, 9));
            return wet(h).stream().mapToInt(q -> 1 << q).sum();
        });
    }

    public int carried(int m, int h) {
        return (int) plain(() -> {
            Shrimp member = member(m);
            outsideUnless(in(h, 0, 9));
            return carriedFrom(member.pool, member, h);
        });
    }

    public int tide(int h) {
        return (int) plain(() -> {
            wholeShore(in(h, 0, 9));
            return come(h);
        });
    }

    private int come(int h) {
        int moved = 0;
        for (Shrimp member : members) {
            int to = carriedFrom(member.pool, member, h);
            moved += to == member.pool ? 0 : 1;
            member.pool = to;
        }
        return moved;
    }

    private int forIt(int v) {
        return membersWho(m -> in(members.get(m).view, v - mild, v + mild));
    }

    private int passing(int friends) {
        int set = 0;
        for (int q = 0; q < pools.size(); q++) {
            int balance = 0;
            for (Shrimp member : members) {
                if (member.pool == q) {
                    balance += (friends >> member.number & 1) == 1 ? 1 : -1;
                }
            }
            set += balance > 0 ? 1 << q : 0;
        }
        return set;
    }

    private TreeSet<Integer> satIn() {
        TreeSet<Integer> satIn = new TreeSet<>();
        members.forEach(member -> satIn.add(member.pool));
        return satIn;
    }

    private boolean isLaw(int friends) {
        return Integer.bitCount(passing(friends)) > satIn().size() / 2.0;
    }

    public int ayes(int v) {
        return (int) plain(() -> {
            wholeShore(in(v, 0, 9));
            return forIt(v);
        });
    }

    public int passes(int v) {
        return (int) plain(() -> {
            wholeShore(in(v, 0, 9));
            return passing(forIt(v));
        });
    }

    public int law(int v) {
        return (int) plain(() -> {
            wholeShore(in(v, 0, 9));
            return isLaw(forIt(v)) ? 1 : 0;
        });
    }

    public int year(int sheet, int lane, int i, int n, int what) {
        return (int) naming(() -> {
            unknownUnless(in(sheet, 0, 3));
            outsideUnless(in(lane, 0, 2) && in(n, 0, 20));
            outsideUnless(in(what, 0, 3) || in(what, 10, 15) || in(what, 20, 29));
            int[] tides = row(sheets[sheet], lane, i, n);
            mustHaveShore();
            for (int h : tides) {
                outsideUnless(in(h, 0, 9));
            }
            return yearOf(tides, what);
        });
    }

    private int yearOf(int[] tides, int what) {
        int[] before = seats();
        int moved = 0;
        for (int k = 0; k < tides.length; k++) {
            if (wet(tides[k]).isEmpty()) {
                sitAs(before);
                return what == 1 ? k : -100 - k;
            }
            moved += come(tides[k]);
        }
        int answer = what == 1 ? -9 : what == 0 ? moved : behindYear(what);
        sitAs(before);
        return answer;
    }

    private int behindYear(int what) {
        if (what == 2) {
            return satIn().size();
        }
        if (what == 3) {
            return satIn().stream().min(Comparator.comparingInt((Integer q) ->
                -Integer.bitCount(membersWho(m -> members.get(m).pool == q))).thenComparing(q -> q)).get();
        }
        if (what >= 20) {
            return isLaw(forIt(what - 20)) ? 1 : 0;
        }
        return what - 10 < members.size() ? members.get(what - 10).pool : -9;
    }

    private int[] seats() {
        return members.stream().mapToInt(member -> member.pool).toArray();
    }

    private void sitAs(int[] seats) {
        for (Shrimp member : members) {
            member.pool = seats[member.number];
        }
    }

    // ---- 3 bills, leaps, seats

    public int best(int what) {
        return (int) plain(() -> {
            wholeShore(in(what, 0, 1));
            for (int most = 6; most >= 0; most--) {
                for (int v = 0; v <= 9; v++) {
                    if (Integer.bitCount(passing(forIt(v))) == most) {
                        return what == 0 ? v : most;
                    }
                }
            }
            return -9;
        });
    }

    public int turn(int v) {
        return (int) plain(() -> {
            wholeShore(in(v, 0, 9));
            int friends = forIt(v);
            for (int size = 0; size <= 6; size++) {
                for (int set = 0; set < 64; set++) {
                    boolean fits = set < 1 << members.size() && (set & friends) == 0;
                    if (fits && Integer.bitCount(set) == size && isLaw(set + friends)) {
                        return set;
                    }
                }
            }
            return -9;
        });
    }

    public int drift(int sheet, int lane, int i, int n, int v, int what) {
        return (int) naming(() -> {
            unknownUnless(in(sheet, 0, 3));
            outsideUnless(in(lane, 0, 2) && in(n, 0, 20) && in(v, 0, 9) && in(what, 0, 1));
            int[] row = row(sheets[sheet], lane, i, n);
            mustHaveShore();
            for (int q : row) {
                pool(q);
            }
            int origins = 0;
            for (int bill = 0; bill <= 9; bill++) {
                origins += drifted(bill, row) == v ? 1 << bill : 0;
            }
            return what == 0 ? drifted(v, row) : origins;
        });
    }

    private int drifted(int bill, int[] row) {
        for (int q : row) {
            int[] views = members.stream().filter(member -> member.pool == q).mapToInt(member -> member.view).toArray();
            bill = (bill + Arrays.stream(views).sum()) / (views.length + 1);
        }
        return bill;
    }

    public int leaps(int a, int b, int k) {
        return (int) plain(() -> {
            pool(a);
            pool(b);
            outsideUnless(in(k, -1, 5));
            for (int length = 0; length < pools.size(); length++) {
                List<Integer> row = firstRow(a, b, length);
                if (row != null) {
                    return k == -1 ? length : k < row.size() ? row.get(k) : -9;
                }
            }
            return -9;
        });
    }

    private List<Integer> firstRow(int a, int b, int length) {
        if (length == 0) {
            return a == b ? new ArrayList<>(List.of(a)) : null;
        }
        for (int next = 0; next < pools.size(); next++) {
            if (Math.abs(pools.get(a).height - pools.get(next).height) <= leap) {
                List<Integer> rest = firstRow(next, b, length - 1);
                if (rest != null) {
                    rest.add(0, a);
                    return rest;
                }
            }
        }
        return null;
    }

    public int elect(int m, int q, int k) {
        return (int) plain(() -> {
            Shrimp member = member(m);
            pool(q);
            outsideUnless(in(k, -1, 4));
            for (int length = 0; length <= 5; length++) {
                List<Integer> row = firstTides(member, member.pool, q, length);
                if (row != null) {
                    return k == -1 ? length : k < length ? row.get(k) : -9;
                }
            }
            return -9;
        });
    }

    private List<Integer> firstTides(Shrimp member, int from, int to, int length) {
        if (length == 0) {
            return from == to ? new ArrayList<>() : null;
        }
        for (int h = 0; h <= 9; h++) {
            int next = carriedFrom(from, member, h);
            List<Integer> rest = next == from ? null : firstTides(member, next, to, length - 1);
            if (rest != null) {
                rest.add(0, h);
                return rest;
            }
        }
        return null;
    }

    // ---- 4 where they were carried

    public int reading(int m, int h, int q) {
        return (int) plain(() -> {
            member(m);
            outsideUnless(in(h, 0, 9));
            pool(q);
            unless(told.size() < 8, -4);
            told.add(new int[] {m, h, q});
            return told.size() - 1;
        });
    }

    public int back(int k) {
        return (int) plain(() -> {
            outsideUnless(in(k, 0, told.size()));
            for (int i = 0; i < k; i++) {
                told.remove(told.size() - 1);
            }
            return told.size();
        });
    }

    private boolean allSo() {
        return told.stream().allMatch(t -> carriedFrom(members.get(t[0]).pool, members.get(t[0]), t[1]) == t[2]);
    }

    public int heights(int q) {
        return (int) plain(() -> {
            int old = pool(q).height;
            int set = 0;
            for (int v = 1; v <= 9; v++) {
                pool(q).height = v;
                set += allSo() ? 1 << v : 0;
            }
            pool(q).height = old;
            return set;
        });
    }

    public int kinds(int m) {
        return (int) plain(() -> {
            Shrimp old = member(m);
            int set = 0;
            for (int kind = 0; kind <= 2; kind++) {
                Shrimp other = ofKind(kind);
                other.pool = old.pool;
                members.set(m, other);
                set += allSo() ? 1 << kind : 0;
            }
            members.set(m, old);
            return set;
        });
    }

    public int streams() {
        return (int) plain(() -> {
            mustHaveShore();
            int old = stream;
            int set = 0;
            for (stream = 1; stream <= 3; stream++) {
                set += allSo() ? 1 << stream : 0;
            }
            stream = old;
            return set;
        });
    }

    public long odds(int m, int q, int which) {
        long answer = plain(() -> {
            Shrimp member = member(m);
            pool(q);
            outsideUnless(in(which, 0, 1));
            int upper = 0;
            for (int both = 0; both < 100; both++) {
                int between = carriedFrom(member.pool, member, both / 10);
                upper += carriedFrom(between, member, both % 10) == q ? 1 : 0;
            }
            int a = upper;
            int b = 100;
            while (b != 0) {
                int rest = a % b;
                a = b;
                b = rest;
            }
            return (which == 0 ? upper : 100) / a;
        });
        return answer < 0 ? Long.MIN_VALUE : answer;
    }

    // ---- 5 sheets, parts

    public int sheet(int k, int lane, int n) {
        return (int) naming(() -> {
            unknownUnless(in(k, 0, 3));
            outsideUnless(in(lane, 0, 2) && n <= 60);
            sheets[k] = lane == 0 ? new byte[n] : lane == 1 ? new short[n] : new int[n];
            return 1;
        });
    }

    public int lose(int k) {
        return (int) plain(() -> {
            unknownUnless(in(k, 0, 3));
            Object had = sheets[k];
            sheets[k] = null;
            return had == null ? 0 : 1;
        });
    }

    public int put(int k, int i, int v) {
        return (int) naming(() -> {
            unknownUnless(in(k, 0, 3));
            if (sheets[k] instanceof byte[] bytes) {
                bytes[i] = (byte) v;
            } else if (sheets[k] instanceof short[] shorts) {
                shorts[i] = (short) v;
            } else {
                ((int[]) sheets[k])[i] = v;
            }
            return 1;
        });
    }

    public long cell(int k, int i, int lane) {
        boolean[] fine = {false};
        long answer = naming(() -> {
            unknownUnless(in(k, 0, 3));
            outsideUnless(in(lane, 0, 2));
            lengthAs(sheets[k], lane);
            int value = at(sheets[k], i);
            fine[0] = true;
            return value;
        });
        return fine[0] ? answer : Long.MIN_VALUE;
    }

    public int copy(int k, int i, int other, int j, int n) {
        return (int) naming(() -> {
            unknownUnless(in(k, 0, 3) && in(other, 0, 3));
            System.arraycopy(sheets[k], i, sheets[other], j, n);
            return n;
        });
    }

    public int tell(int m) {
        return (int) plain(() -> member(m).tell(this));
    }

    public int name(int m) {
        return (int) plain(() -> member(m).named(this));
    }

    public int as(int m, int kind) {
        return (int) naming(() -> {
            Shrimp member = member(m);
            outsideUnless(in(kind, 0, 2));
            Shrimp taken = kind == 0 ? (Shrimp) member : kind == 1 ? (Crab) member : (Limpet) member;
            return taken == member ? 1 : 0;
        });
    }

    public int trace() {
        return trace;
    }

    public int fault() {
        return fault;
    }

    public int many(int what) {
        return (int) plain(() -> {
            outsideUnless(in(what, 0, 5));
            return new int[] {members.size(), pools.size(), stream, mild, leap, told.size()}[what];
        });
    }
}
