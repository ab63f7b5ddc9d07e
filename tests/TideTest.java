/** Promises 11 to 17: tides, bills and years. */
public final class TideTest {
    /** Pools of heights 3, 5, 1, 7. */
    private static final String TEXT = "r212,32,51,14,73;s05;c27;l01;s33;c19";
    private static final Due due = new Due();

    public static void main(String[] args) {
        tides();
        ringOfWashedPools();
        edgesOfTides();
        bills();
        laws();
        edgesOfBills();
        refusals();
        years();
        edgesOfYears();
        yearsThatWashNothing();
        refusalsOfYears();
        faultsOfYears();
        due.end();
    }

    private static void tides() {
        TideSeats x = Due.on(TEXT);
        int[] wet = {0, 0, 4, 4, 5, 5, 7, 7, 15, 15};
        for (int h = 0; h <= 9; h++) {
            due.is("11: washed(" + h + ")", x.washed(h), wet[h]);
        }
        due.is("12: one pool is washed", x.carried(1, 2), 2);
        due.is("12: carried(1, 4)", x.carried(1, 4), 0);
        due.is("12: carried(2, 4)", x.carried(2, 4), 2);
        due.is("12: a pool that is not washed", x.carried(4, 4), 1);
        due.is("12: carried(0, 6)", x.carried(0, 6), 2);
        due.is("12: carried(3, 9)", x.carried(3, 9), 1);
        due.is("12: nothing is changed", x.ofMember(0, 1), 0);
        due.is("13: tide(0)", x.tide(0), 0);
        due.is("13: tide(4)", x.tide(4), 2);
        int[] seats = {0, 0, 2, 3, 1};
        for (int m = 0; m < seats.length; m++) {
            due.is("13: seat of " + m, x.ofMember(m, 1), seats[m]);
        }
        due.is("13: tide(9)", x.tide(9), 5);
        due.is("13: seat of 3 behind the last pool", x.ofMember(3, 1), 1);
    }

    private static void ringOfWashedPools() {
        TideSeats x = Due.on("r3" + "00,11,91,21,31;s05;c05;l05");
        due.is("12: 3 on among 3 comes home", x.carried(0, 9), 0);
        due.is("12: 2 on leaves out the dry one", x.carried(1, 9), 3);
        due.is("12: 1 on leaves out the dry one", x.carried(2, 9), 2);
        due.is("13: who comes home does not sit elsewhere", x.tide(9), 2);
        x.raise(3, 9);
        due.is("12: 3 on among 2", x.carried(0, 9), 2);
        x.flow(1);
        due.is("12: a crab in a slow stream stays", x.carried(1, 9), 3);
        due.is("12: a limpet in a slow stream stays", x.carried(2, 9), 2);
        due.is("12: a shrimp in a slow stream", x.carried(0, 9), 2);
    }

    private static void edgesOfTides() {
        TideSeats x = Due.on("r111,11,91,11;s00;s10;l20");
        due.is("11: no pool is lower than 0", x.washed(0), 0);
        due.is("11: a pool of height 1 by a tide of height 1", x.washed(1), 0);
        due.is("11: a pool of height 1 by a tide of height 2", x.washed(2), 5);
        due.is("11: a pool of height 9 by the highest tide", x.washed(9), 5);
        due.is("12: as high as the tide", x.carried(0, 1), 0);
        due.is("12: behind the last pool the first one", x.carried(2, 9), 2);
        x.flow(2);
        due.is("12: a limpet by half of 2", x.carried(2, 9), 0);
        due.is("12: a shrimp by 2 among 2", x.carried(0, 9), 0);
        x.flow(3);
        due.is("12: a limpet by half of 3, cut", x.carried(2, 9), 0);
        due.is("12: a shrimp by 3 among 2", x.carried(0, 9), 2);
        x.reading(0, 9, 2);
        due.is("13: two sit elsewhere", x.tide(9), 2);
        due.is("13: readings stay", x.many(5), 1);
        due.is("13: the first pool comes again", x.ofMember(2, 1), 0);
        x.raise(0, 9);
        due.is("13: one pool is washed: nobody sits elsewhere", x.tide(9), 0);
        due.is("13: there one stays", x.ofMember(0, 1), 2);
        x = Due.on("r100,11,11,11,11,11,11;s50;s50;s50;s50;s50;s50");
        due.is("13: all of six", x.tide(9), 6);
        due.is("13: all behind the sixth pool", x.ofPool(0, 2), 63);
    }

    private static void bills() {
        TideSeats x = Due.on("r120,11,11,11;s05;s07;s13;s19;s18");
        due.is("14: ayes(5)", x.ayes(5), Due.set(0, 1, 2));
        due.is("14: ayes(7)", x.ayes(7), Due.set(0, 1, 3, 4));
        due.is("14: ayes(0)", x.ayes(0), 0);
        due.is("15: passes(5)", x.passes(5), Due.set(0));
        due.is("15: passes(7)", x.passes(7), Due.set(0, 1));
        due.is("15: half is not more", x.passes(4), 0);
        due.is("15: half of pool 0, two of three of pool 1", x.passes(9), Due.set(0, 1) - 1);
        x.calm(0);
        due.is("14: mild 0", x.ayes(7), Due.set(1));
        x.calm(9);
        due.is("14: mild 9", x.ayes(0), 31);
        due.is("15: an empty pool passes nothing", x.passes(0), 3);
    }

    private static void laws() {
        TideSeats x = Due.on("r100,11,11,11,11,11;s05;s15;s22;s32");
        due.is("16: half of the pools is not more than half", x.law(5), 0);
        x.sway(2, 5);
        due.is("16: three of four", x.law(5), 1);
        due.is("16: one of four", x.law(2), 0);
        x.seat(3, 2);
        due.is("16: pools in which nobody sits do not count", x.law(5), 1);
    }

    private static void edgesOfBills() {
        TideSeats x = Due.on("r100,11,11;s00;s19");
        due.is("14: the least bill", x.ayes(0), 1);
        due.is("14: the greatest bill", x.ayes(9), 2);
        due.is("15: the least bill", x.passes(0), 1);
        due.is("15: the greatest bill", x.passes(9), 2);
        due.is("16: one of two is no more than half", x.law(9), 0);
        x.calm(8);
        due.is("14: 8 off, mild 8", x.ayes(8), 3);
        due.is("14: 9 off, mild 8", x.ayes(9), 2);
        due.is("14: 9 off the other way, mild 8", x.ayes(0), 1);
        x.calm(9);
        due.is("14: 9 off, mild 9", x.ayes(9), 3);
        due.is("16: both", x.law(0), 1);
        x = Due.on("r100,11,11,11,11,11,11;s50");
        due.is("15: one alone, in the sixth pool", x.passes(0), 32);
        due.is("16: one pool of one, though five are empty", x.law(0), 1);
        due.is("16: none of one", x.law(1), 0);
        x = Due.on("r100,11,11,11,11,11,11;s00;s51");
        due.is("16: one of two, in the first pool and the sixth", x.law(0), 0);
        due.is("16: the other one of two", x.law(1), 0);
        x = Due.on("r100,11,11,11,11,11,11;s00;s10;s20;s31;s41;s51");
        due.is("15: three of six", x.passes(1), 56);
        due.is("16: three of six", x.law(1), 0);
        x.sway(2, 1);
        due.is("16: four of six", x.law(1), 1);
        x = Due.on("r100,11,11;s00;s00;s00;s01;s01;s01");
        due.is("15: three of six who sit", x.passes(0), 0);
        x.sway(3, 0);
        due.is("15: four of six who sit", x.passes(0), 1);
    }

    private static void refusals() {
        TideSeats x = Due.on(TEXT);
        TideSeats none = new TideSeats();
        for (int v : new int[] {-1, 10, Integer.MIN_VALUE, Integer.MAX_VALUE}) {
            for (TideSeats each : new TideSeats[] {x, none}) {
                due.is("11: OUTSIDE", each.washed(v), TideSeats.OUTSIDE);
                due.is("13: OUTSIDE", each.tide(v), TideSeats.OUTSIDE);
                due.is("14: OUTSIDE", each.ayes(v), TideSeats.OUTSIDE);
                due.is("15: OUTSIDE", each.passes(v), TideSeats.OUTSIDE);
                due.is("16: OUTSIDE", each.law(v), TideSeats.OUTSIDE);
            }
            due.is("12: OUTSIDE", x.carried(4, v), TideSeats.OUTSIDE);
            due.is("12: UNKNOWN 5", x.carried(5, v), TideSeats.UNKNOWN);
            due.is("12: UNKNOWN -1", x.carried(-1, v), TideSeats.UNKNOWN);
        }
        due.is("11: STATE", none.washed(0), TideSeats.STATE);
        due.is("12: UNKNOWN without a shore", none.carried(0, 0), TideSeats.UNKNOWN);
        due.is("13: STATE", none.tide(9), TideSeats.STATE);
        due.is("14: STATE", none.ayes(0), TideSeats.STATE);
        due.is("15: STATE", none.passes(9), TideSeats.STATE);
        due.is("16: STATE", none.law(0), TideSeats.STATE);
    }

    private static void year(TideSeats x, int n, int what, int want) {
        due.is("17: year of " + n + ", " + what, x.year(1, 2, 0, n, what), want);
        due.is("17: fault()", x.fault(), 0);
    }

    private static void years() {
        TideSeats x = Due.on(TEXT);
        Due.lay(x, 1, 2, 4, 9, 9);
        year(x, 0, 0, 0);
        year(x, 0, 1, TideSeats.NONE);
        year(x, 0, 3, 0);
        year(x, 1, 0, 2);
        year(x, 3, 0, 12);
        year(x, 3, 1, TideSeats.NONE);
        year(x, 3, 2, 3);
        year(x, 3, 3, 0);
        int[] seats = {0, 2, 0, 3, 3, TideSeats.NONE};
        for (int m = 0; m < seats.length; m++) {
            year(x, 3, 10 + m, seats[m]);
        }
        due.is("17: nothing is changed", x.ofMember(1, 1), 2);
        due.is("17: from cell 1 on", x.year(1, 2, 1, 2, 10), 0);
        due.is("17: behind all cells", x.year(1, 2, 3, 0, 10), 0);
        Due.lay(x, 1, 2, new int[20]);
        year(x, 20, 1, 0);
        x = Due.on("r100,11,11;s05;c15;c13");
        Due.lay(x, 1, 2, 9, 9);
        year(x, 0, 25, 0);
        year(x, 1, 25, 1);
        year(x, 2, 25, 0);
        year(x, 1, 24, 0);
        year(x, 0, 2, 2);
        year(x, 1, 2, 1);
        x.seat(2, 0);
        year(x, 0, 3, 0);
        year(x, 1, 3, 1);
        x = Due.on("r140,11,11;s05;s19");
        Due.lay(x, 1, 2, 9, 9);
        year(x, 2, 20, 0);
        year(x, 2, 24, 0);
        year(x, 2, 29, 1);
        year(x, 1, 3, 0);
    }

    private static void edgesOfYears() {
        TideSeats x = Due.on("r100,11,11,11,11,11,11;s00;s00;s00;s00;s00;s00");
        for (int lane = 0; lane <= 2; lane++) {
            int[] tides = new int[20];
            java.util.Arrays.fill(tides, 2);
            Due.lay(x, lane, lane, tides);
            due.is("17: 20 tides, all in all", x.year(lane, lane, 0, 20, 0), 120);
            due.is("17: 20 tides, none wrong", x.year(lane, lane, 0, 20, 1), TideSeats.NONE);
            due.is("17: 20 tides, one pool", x.year(lane, lane, 0, 20, 2), 1);
            due.is("17: 20 tides, the third pool", x.year(lane, lane, 0, 20, 3), 2);
            due.is("17: 20 tides, member 5", x.year(lane, lane, 0, 20, 15), 2);
            due.is("17: 20 tides, bill 0", x.year(lane, lane, 0, 20, 20), 1);
            due.is("17: 20 tides, bill 9", x.year(lane, lane, 0, 20, 29), 0);
            due.is("17: a row that ends with the sheet", x.year(lane, lane, 15, 5, 3), 5);
            due.is("17: one that goes beyond it", x.year(lane, lane, 15, 6, 3), -13);
            due.is("17: one of no cells at its end", x.year(lane, lane, 20, 0, 3), 0);
            x.put(lane, 19, 1);
            due.is("17: the last one is wrong", x.year(lane, lane, 0, 20, 0), -119);
            due.is("17: the last one is wrong, told", x.year(lane, lane, 0, 20, 1), 19);
            due.is("17: the years ahead of it are not", x.year(lane, lane, 0, 19, 0), 114);
            x.put(lane, 0, 9);
            due.is("17: the highest tide", x.year(lane, lane, 0, 1, 0), 6);
            x.put(lane, 0, 10);
            due.is("17: one above it", x.year(lane, lane, 0, 1, 1), TideSeats.OUTSIDE);
            x.put(lane, 0, 0);
            due.is("17: the lowest tide", x.year(lane, lane, 0, 1, 1), 0);
            x.put(lane, 0, -1);
            due.is("17: one below it", x.year(lane, lane, 0, 1, 1), TideSeats.OUTSIDE);
        }
        x = Due.on("r100,11,11,11,11,11,11;s00;s50;s50");
        x.sheet(3, 1, 1);
        due.is("17: two pools, the first and the sixth", x.year(3, 1, 0, 0, 2), 2);
        due.is("17: the sixth has the most", x.year(3, 1, 0, 0, 3), 5);
        x = Due.on("r100,11,11;s00;s10;s10;s10;s10;s00");
        x.sheet(3, 1, 1);
        due.is("17: two pools of two", x.year(3, 1, 0, 0, 2), 2);
        due.is("17: the second has the most", x.year(3, 1, 0, 0, 3), 1);
        x = Due.on("r100,11,11,11,11,11,11;s20;s20;s20;s20;s20;s20");
        x.sheet(3, 1, 0);
        due.is("17: no tides of a sheet of none", x.year(3, 1, 0, 0, 1), TideSeats.NONE);
        due.is("17: all sit as they do now", x.year(3, 1, 0, 0, 2), 1);
    }

    private static void yearsThatWashNothing() {
        TideSeats x = Due.on(TEXT);
        Due.lay(x, 1, 2, 9, 2, 1, 0);
        year(x, 4, 1, 2);
        for (int what : new int[] {0, 2, 3, 10, 15, 20, 29}) {
            year(x, 4, what, -102);
        }
        year(x, 2, 1, TideSeats.NONE);
        due.is("17: counted from the first tide on", x.year(1, 2, 1, 3, 0), -101);
        due.is("17: a first wrong 0", x.year(1, 2, 3, 1, 0), -100);
        due.is("17: a first wrong 0, told", x.year(1, 2, 3, 1, 1), 0);
    }

    private static void refusalsOfYears() {
        TideSeats x = Due.on(TEXT);
        Due.lay(x, 1, 2, new int[30]);
        due.is("17: UNKNOWN -1", x.year(-1, 5, 0, 0, 0), TideSeats.UNKNOWN);
        due.is("17: UNKNOWN 4", x.year(4, 0, 0, 0, 0), TideSeats.UNKNOWN);
        due.is("17: OUTSIDE lane 3", x.year(1, 3, 0, 0, 0), TideSeats.OUTSIDE);
        due.is("17: OUTSIDE lane -1", x.year(0, -1, 0, 0, 0), TideSeats.OUTSIDE);
        due.is("17: OUTSIDE n 21", x.year(1, 2, 0, 21, 0), TideSeats.OUTSIDE);
        due.is("17: OUTSIDE n -1, ahead of CAST", x.year(1, 0, 0, -1, 0), TideSeats.OUTSIDE);
        for (int what : new int[] {-1, 4, 9, 16, 19, 30}) {
            due.is("17: OUTSIDE what " + what, x.year(1, 2, 0, 1, what), TideSeats.OUTSIDE);
        }
        x.put(1, 3, 10);
        due.is("17: no tide, behind a first wrong", x.year(1, 2, 0, 4, 1), TideSeats.OUTSIDE);
        due.is("17: no tide behind the year", x.year(1, 2, 0, 3, 1), 0);
        x.put(1, 3, -1);
        due.is("17: no tide", x.year(1, 2, 3, 1, 0), TideSeats.OUTSIDE);
        TideSeats none = new TideSeats();
        Due.lay(none, 1, 2, 10);
        due.is("17: STATE ahead of OUTSIDE", none.year(1, 2, 0, 1, 0), TideSeats.STATE);
        due.is("17: OUTSIDE ahead of STATE", none.year(1, 2, 0, 1, 4), TideSeats.OUTSIDE);
        due.is("17: INDEX ahead of STATE", none.year(1, 2, 0, 2, 0), -13);
        due.is("17: fault()", none.fault(), 3);
        due.is("17: STATE of no tides", none.year(1, 2, 0, 0, 0), TideSeats.STATE);
        due.is("17: a refused call comes to no fault", none.fault(), 0);
    }

    private static void faultsOfYears() {
        TideSeats x = Due.on(TEXT);
        Due.lay(x, 1, 1, 9, 9);
        due.is("17: CAST", x.year(1, 2, 9, 1, 0), -12);
        due.is("17: fault() of CAST", x.fault(), 2);
        due.is("17: NULL", x.year(2, 2, 9, 1, 0), -11);
        due.is("17: fault() of NULL", x.fault(), 1);
        due.is("17: INDEX n 3", x.year(1, 1, 0, 3, 0), -13);
        due.is("17: INDEX i -1", x.year(1, 1, -1, 1, 0), -13);
        due.is("17: INDEX i 3 of none", x.year(1, 1, 3, 0, 0), -13);
        due.is("17: INDEX i -1 of none", x.year(1, 1, -1, 0, 0), -13);
        due.is("17: INDEX that would wrap", x.year(1, 1, Integer.MAX_VALUE, 20, 0), -13);
        due.is("17: fault() of INDEX", x.fault(), 3);
    }
}
