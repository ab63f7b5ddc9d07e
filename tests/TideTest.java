/** Promises 11 to 17: tides, bills and years. */
public final class TideTest {
    /** Pools of heights 3, 5, 1, 7. */
    private static final String TEXT = "r212,32,51,14,73;s05;c27;l01;s33;c19";
    private static final Due due = new Due();

    public static void main(String[] args) {
        tides();
        ringOfWashedPools();
        bills();
        laws();
        refusals();
        years();
        yearsThatWashNothing();
        refusalsOfYears();
        faultsOfYears();
        due.end();
    }

    private static void tides() {
        TideSeats x = Due.on(TEXT);
        int[] wet = {0, 0, 4, 4, 5, 5, 7, 7, 15, 15};
        for (int h = 0; h <= 9; h++) {
            due.is("11: washed(" + h + ")", x.washed(h), wet[h]);
        }
        due.is("12: one pool is washed", x.carried(1, 2), 2);
        due.is("12: carried(1, 4)", x.carried(1, 4), 0);
        due.is("12: carried(2, 4)", x.carried(2, 4), 2);
        due.is("12: a pool that is not washed", x.carried(4, 4), 1);
        due.is("12: carried(0, 6)", x.carried(0, 6), 2);
        due.is("12: carried(3, 9)", x.carried(3, 9), 1);
        due.is("12: nothing is changed", x.ofMember(0, 1), 0);
        due.is("13: tide(0)", x.tide(0), 0);
        due.is("13: tide(4)", x.tide(4), 2);
        int[] seats = {0, 0, 2, 3, 1};
        for (int m = 0; m < seats.length; m++) {
            due.is("13: seat of " + m, x.ofMember(m, 1), seats[m]);
        }
        due.is("13: tide(9)", x.tide(9), 5);
        due.is("13: seat of 3 behind the last pool", x.ofMember(3, 1), 1);
    }

    private static void ringOfWashedPools() {
        TideSeats x = Due.on("r3" + "00,11,91,21,31;s05;c05;l05");
        due.is("12: 3 on among 3 comes home", x.carried(0, 9), 0);
        due.is("12: 2 on leaves out the dry one", x.carried(1, 9), 3);
        due.is("12: 1 on leaves out the dry one", x.carried(2, 9), 2);
        due.is("13: who comes home does not sit elsewhere", x.tide(9), 2);
        x.raise(3, 9);
        due.is("12: 3 on among 2", x.carried(0, 9), 2);
        x.flow(1);
        due.is("12: a crab in a slow stream stays", x.carried(1, 9), 3);
        due.is("12: a limpet in a slow stream stays", x.carried(2, 9), 2);
        due.is("12: a shrimp in a slow stream", x.carried(0, 9), 2);
    }

    private static void bills() {
        TideSeats x = Due.on("r120,11,11,11;s05;s07;s13;s19;s18");
        due.is("14: ayes(5)", x.ayes(5), Due.set(0, 1, 2));
        due.is("14: ayes(7)", x.ayes(7), Due.set(0, 1, 3, 4));
        due.is("14: ayes(0)", x.ayes(0), 0);
        due.is("15: passes(5)", x.passes(5), Due.set(0));
        due.is("15: passes(7)", x.passes(7), Due.set(0, 1));
        due.is("15: half is not more", x.passes(4), 0);
        due.is("15: half of pool 0, two of three of pool 1", x.passes(9), Due.set(0, 1) - 1);
        x.calm(0);
        due.is("14: mild 0", x.ayes(7), Due.set(1));
        x.calm(9);
        due.is("14: mild 9", x.ayes(0), 31);
        due.is("15: an empty pool passes nothing", x.passes(0), 3);
    }

    private static void laws() {
        TideSeats x = Due.on("r100,11,11,11,11,11;s05;s15;s22;s32");
        due.is("16: half of the pools is not more than half", x.law(5), 0);
        x.sway(2, 5);
        due.is("16: three of four", x.law(5), 1);
        due.is("16: one of four", x.law(2), 0);
        x.seat(3, 2);
        due.is("16: pools in which nobody sits do not count", x.law(5), 1);
    }

    private static void refusals() {
        TideSeats x = Due.on(TEXT);
        TideSeats none = new TideSeats();
        for (int v : new int[] {-1, 10, Integer.MIN_VALUE, Integer.MAX_VALUE}) {
            for (TideSeats each : new TideSeats[] {x, none}) {
                due.is("11: OUTSIDE", each.washed(v), TideSeats.OUTSIDE);
                due.is("13: OUTSIDE", each.tide(v), TideSeats.OUTSIDE);
                due.is("14: OUTSIDE", each.ayes(v), TideSeats.OUTSIDE);
                due.is("15: OUTSIDE", each.passes(v), TideSeats.OUTSIDE);
                due.is("16: OUTSIDE", each.law(v), TideSeats.OUTSIDE);
            }
            due.is("12: OUTSIDE", x.carried(4, v), TideSeats.OUTSIDE);
            due.is("12: UNKNOWN 5", x.carried(5, v), TideSeats.UNKNOWN);
            due.is("12: UNKNOWN -1", x.carried(-1, v), TideSeats.UNKNOWN);
        }
        due.is("11: STATE", none.washed(0), TideSeats.STATE);
        due.is("12: UNKNOWN without a shore", none.carried(0, 0), TideSeats.UNKNOWN);
        due.is("13: STATE", none.tide(9), TideSeats.STATE);
        due.is("14: STATE", none.ayes(0), TideSeats.STATE);
        due.is("15: STATE", none.passes(9), TideSeats.STATE);
        due.is("16: STATE", none.law(0), TideSeats.STATE);
    }

    private static void year(TideSeats x, int n, int what, int want) {
        due.is("17: year of " + n + ", " + what, x.year(1, 2, 0, n, what), want);
        due.is("17: fault()", x.fault(), 0);
    }

    private static void years() {
        TideSeats x = Due.on(TEXT);
        Due.lay(x, 1, 2, 4, 9, 9);
        year(x, 0, 0, 0);
        year(x, 0, 1, TideSeats.NONE);
        year(x, 0, 3, 0);
        year(x, 1, 0, 2);
        year(x, 3, 0, 12);
        year(x, 3, 1, TideSeats.NONE);
        year(x, 3, 2, 3);
        year(x, 3, 3, 0);
        int[] seats = {0, 2, 0, 3, 3, TideSeats.NONE};
        for (int m = 0; m < seats.length; m++) {
            year(x, 3, 10 + m, seats[m]);
        }
        due.is("17: nothing is changed", x.ofMember(1, 1), 2);
        due.is("17: from cell 1 on", x.year(1, 2, 1, 2, 10), 0);
        due.is("17: behind all cells", x.year(1, 2, 3, 0, 10), 0);
        Due.lay(x, 1, 2, new int[20]);
        year(x, 20, 1, 0);
        x = Due.on("r100,11,11;s05;c15;c13");
        Due.lay(x, 1, 2, 9, 9);
        year(x, 0, 25, 0);
        year(x, 1, 25, 1);
        year(x, 2, 25, 0);
        year(x, 1, 24, 0);
        year(x, 0, 2, 2);
        year(x, 1, 2, 1);
        x.seat(2, 0);
        year(x, 0, 3, 0);
        year(x, 1, 3, 1);
        x = Due.on("r140,11,11;s05;s19");
        Due.lay(x, 1, 2, 9, 9);
        year(x, 2, 20, 0);
        year(x, 2, 24, 0);
        year(x, 2, 29, 1);
        year(x, 1, 3, 0);
    }

    private static void yearsThatWashNothing() {
        TideSeats x = Due.on(TEXT);
        Due.lay(x, 1, 2, 9, 2, 1, 0);
        year(x, 4, 1, 2);
        for (int what : new int[] {0, 2, 3, 10, 15, 20, 29}) {
            year(x, 4, what, -102);
        }
        year(x, 2, 1, TideSeats.NONE);
        due.is("17: counted from the first tide on", x.year(1, 2, 1, 3, 0), -101);
        due.is("17: a first wrong 0", x.year(1, 2, 3, 1, 0), -100);
        due.is("17: a first wrong 0, told", x.year(1, 2, 3, 1, 1), 0);
    }

    private static void refusalsOfYears() {
        TideSeats x = Due.on(TEXT);
        Due.lay(x, 1, 2, new int[30]);
        due.is("17: UNKNOWN -1", x.year(-1, 5, 0, 0, 0), TideSeats.UNKNOWN);
        due.is("17: UNKNOWN 4", x.year(4, 0, 0, 0, 0), TideSeats.UNKNOWN);
        due.is("17: OUTSIDE lane 3", x.year(1, 3, 0, 0, 0), TideSeats.OUTSIDE);
        due.is("17: OUTSIDE lane -1", x.year(0, -1, 0, 0, 0), TideSeats.OUTSIDE);
        due.is("17: OUTSIDE n 21", x.year(1, 2, 0, 21, 0), TideSeats.OUTSIDE);
        due.is("17: OUTSIDE n -1, ahead of CAST", x.year(1, 0, 0, -1, 0), TideSeats.OUTSIDE);
        for (int what : new int[] {-1, 4, 9, 16, 19, 30}) {
            due.is("17: OUTSIDE what " + what, x.year(1, 2, 0, 1, what), TideSeats.OUTSIDE);
        }
        x.put(1, 3, 10);
        due.is("17: no tide, behind a first wrong", x.year(1, 2, 0, 4, 1), TideSeats.OUTSIDE);
        due.is("17: no tide behind the year", x.year(1, 2, 0, 3, 1), 0);
        x.put(1, 3, -1);
        due.is("17: no tide", x.year(1, 2, 3, 1, 0), TideSeats.OUTSIDE);
        TideSeats none = new TideSeats();
        Due.lay(none, 1, 2, 10);
        due.is("17: STATE ahead of OUTSIDE", none.year(1, 2, 0, 1, 0), TideSeats.STATE);
        due.is("17: OUTSIDE ahead of STATE", none.year(1, 2, 0, 1, 4), TideSeats.OUTSIDE);
        due.is("17: INDEX ahead of STATE", none.year(1, 2, 0, 2, 0), -13);
        due.is("17: fault()", none.fault(), 3);
        due.is("17: STATE of no tides", none.year(1, 2, 0, 0, 0), TideSeats.STATE);
        due.is("17: a refused call comes to no fault", none.fault(), 0);
    }

    private static void faultsOfYears() {
        TideSeats x = Due.on(TEXT);
        Due.lay(x, 1, 1, 9, 9);
        due.is("17: CAST", x.year(1, 2, 9, 1, 0), -12);
        due.is("17: fault() of CAST", x.fault(), 2);
        due.is("17: NULL", x.year(2, 2, 9, 1, 0), -11);
        due.is("17: fault() of NULL", x.fault(), 1);
        due.is("17: INDEX n 3", x.year(1, 1, 0, 3, 0), -13);
        due.is("17: INDEX i -1", x.year(1, 1, -1, 1, 0), -13);
        due.is("17: INDEX i 3 of none", x.year(1, 1, 3, 0, 0), -13);
        due.is("17: INDEX i -1 of none", x.year(1, 1, -1, 0, 0), -13);
        due.is("17: INDEX that would wrap", x.year(1, 1, Integer.MAX_VALUE, 20, 0), -13);
        due.is("17: fault() of INDEX", x.fault(), 3);
    }
}
