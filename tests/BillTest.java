/** Promises 18 to 22: best and turned bills, drift, leaps and elections. */
public final class BillTest {
    private static final String TEXT = "r212,32,51,14,73;s05;c27;l01;s33;c19";
    private static final Due due = new Due();

    public static void main(String[] args) {
        best();
        turn();
        edgesOfTurn();
        drift();
        edgesOfDrift();
        refusalsOfDrift();
        leaps();
        elect();
        refusals();
        due.end();
    }

    private static void best() {
        TideSeats x = Due.on("r110,11,11,11;s05;s06;s17;s27");
        due.is("18: the bill", x.best(0), 6);
        due.is("18: how many", x.best(1), 3);
        x.calm(0);
        due.is("18: mild 0", x.best(0), 7);
        due.is("18: mild 0, how many", x.best(1), 2);
        x.sway(2, 4);
        due.is("18: the least of several", x.best(0), 4);
        due.is("18: bill 9", Due.on("r100,11,11;s09;s19").best(0), 9);
        x = Due.on("r100,11,11;s05;s06");
        due.is("18: none passes", x.best(0), 0);
        due.is("18: none passes, how many", x.best(1), 0);
        x = Due.on("r100,11,11,11,11,11,11;s09;s19;s29;s39;s49;s59");
        due.is("18: all six", x.best(1), 6);
        due.is("18: the greatest bill", x.best(0), 9);
        x.calm(9);
        due.is("18: all ten are alike: the least", x.best(0), 0);
    }

    private static void turn() {
        TideSeats x = Due.on(TEXT);
        due.is("19: turn(0)", x.turn(0), 11);
        due.is("19: turn(2)", x.turn(2), 3);
        x = Due.on("r100,11,11,11;s03;s03;s13;s23;s25");
        due.is("19: already law: nobody is turned", x.turn(3), 0);
        due.is("19: the fewest, not the least set", x.turn(9), Due.set(0, 1, 2));
        due.is("19: those who are for it are not turned", x.turn(5), Due.set(2, 3));
        x = Due.on("r100,11,11;s03;s13");
        due.is("19: both pools are needed", x.turn(9), 3);
        x = Due.on("r100,11,11;s03;s03;s03;s14");
        due.is("19: two of three, and one", x.turn(9), Due.set(0, 1, 3));
        x = Due.on("r100,11,11;s00;s00;s00;s04");
        due.is("19: the least of several", x.turn(9), 7);
    }

    private static void edgesOfTurn() {
        TideSeats x = Due.on("r100,11,11;s03");
        due.is("19: the only one", x.turn(0), 1);
        due.is("19: the greatest bill", x.turn(9), 1);
        due.is("19: the only one is for it", x.turn(3), 0);
        x = Due.on("r100,11,11,11,11,11,11;s00;s10;s20;s30;s40;s50");
        due.is("19: four of six pools, the least of 15 sets", x.turn(9), 15);
        x.sway(0, 9);
        x.sway(3, 9);
        due.is("19: two more, the least of six sets", x.turn(9), Due.set(1, 2));
        x = Due.on("r100,11,11;s00;s00;s00;s00;s00;s00");
        due.is("19: four of six who sit", x.turn(9), 15);
        x = Due.on("r100,11,11;s00;s00;s01;s11;s11;s10");
        due.is("19: one in each of two pools", x.turn(0), Due.set(3));
        x.sway(1, 1);
        due.is("19: one in each of two pools, both not won", x.turn(0), Due.set(1, 3));
        due.is("19: nothing is changed", x.ayes(0), Due.set(0, 5));
    }

    private static void edgesOfDrift() {
        TideSeats x = Due.on("r100,11,11;s05;s05;s05;s05;s05;s04");
        for (int lane = 0; lane <= 2; lane++) {
            Due.lay(x, lane, lane, 0, 0, 1, 1, 0);
            due.is("20: all origins", x.drift(lane, lane, 0, 2, 4, 1), 1023);
            due.is("20: the least bill", x.drift(lane, lane, 0, 1, 0, 0), 4);
            due.is("20: the greatest bill", x.drift(lane, lane, 0, 1, 9, 0), 5);
            due.is("20: a pool in which nobody sits", x.drift(lane, lane, 2, 2, 9, 0), 9);
            due.is("20: its only origin", x.drift(lane, lane, 2, 2, 9, 1), 512);
            due.is("20: a row that ends with the sheet", x.drift(lane, lane, 3, 2, 0, 0), 4);
            due.is("20: one that goes beyond it", x.drift(lane, lane, 3, 3, 0, 0), -13);
            due.is("20: one of no cells at its end", x.drift(lane, lane, 5, 0, 0, 1), 1);
            x.put(lane, 4, 2);
            due.is("20: a cell is no pool, the last", x.drift(lane, lane, 3, 2, 0, 1), TideSeats.UNKNOWN);
            due.is("20: it is not told", x.drift(lane, lane, 3, 1, 0, 1), 1);
        }
        x.sheet(3, 0, 0);
        due.is("20: no pools of a sheet of none", x.drift(3, 0, 0, 0, 6, 0), 6);
        x = Due.on("r100,11,11,11,11,11,11;s50;s51;s50;s50;s50;s50");
        Due.lay(x, 0, 0, 5);
        due.is("20: 10 by 7, the sixth pool", x.drift(0, 0, 0, 1, 9, 0), 1);
        due.is("20: 6 by 7", x.drift(0, 0, 0, 1, 5, 0), 0);
        due.is("20: origins of 0", x.drift(0, 0, 0, 1, 0, 1), 63);
    }

    private static void drift() {
        TideSeats x = Due.on(TEXT);
        Due.lay(x, 1, 0, 0, 1, 2);
        due.is("20: by none", x.drift(1, 0, 0, 0, 7, 0), 7);
        due.is("20: origins by none", x.drift(1, 0, 3, 0, 7, 1), 1 << 7);
        due.is("20: by pool 0", x.drift(1, 0, 0, 1, 0, 0), 2);
        due.is("20: origins by pool 0", x.drift(1, 0, 0, 1, 3, 1), Due.set(3, 4, 5));
        due.is("20: no origins", x.drift(1, 0, 0, 1, 0, 1), 0);
        due.is("20: by three", x.drift(1, 0, 0, 3, 0, 0), 6);
        due.is("20: from the second on", x.drift(1, 0, 1, 1, 8, 0), 8);
        due.is("20: fault()", x.fault(), 0);
        due.is("20: nothing is changed", x.ofMember(0, 2), 5);
        x = Due.on("r100,11,11;s09");
        Due.lay(x, 1, 0, 0);
        due.is("20: the least and the most origins", x.drift(1, 0, 0, 1, 4, 1) + x.drift(1, 0, 0, 1, 9, 1), Due.set(0, 9));
        Due.lay(x, 1, 0, 1, 1);
        due.is("20: by pools in which nobody sits", x.drift(1, 0, 0, 2, 4, 0), 4);
        Due.lay(x, 1, 0, new int[20]);
        due.is("20: by 20", x.drift(1, 0, 0, 20, 0, 0), 8);
    }

    private static void refusalsOfDrift() {
        TideSeats x = Due.on(TEXT);
        Due.lay(x, 1, 1, new int[30]);
        due.is("20: UNKNOWN -1", x.drift(-1, 9, 0, 0, 0, 0), TideSeats.UNKNOWN);
        due.is("20: UNKNOWN 4", x.drift(4, 0, 0, 0, 0, 0), TideSeats.UNKNOWN);
        due.is("20: OUTSIDE lane -1", x.drift(1, -1, 0, 0, 0, 0), TideSeats.OUTSIDE);
        due.is("20: OUTSIDE lane 3", x.drift(1, 3, 0, 0, 0, 0), TideSeats.OUTSIDE);
        due.is("20: OUTSIDE n -1", x.drift(1, 0, 0, -1, 0, 0), TideSeats.OUTSIDE);
        due.is("20: OUTSIDE n 21", x.drift(1, 1, 0, 21, 0, 0), TideSeats.OUTSIDE);
        due.is("20: OUTSIDE v -1", x.drift(1, 1, 0, 1, -1, 0), TideSeats.OUTSIDE);
        due.is("20: OUTSIDE v 10", x.drift(1, 1, 0, 1, 10, 1), TideSeats.OUTSIDE);
        due.is("20: OUTSIDE what -1", x.drift(1, 1, 0, 1, 0, -1), TideSeats.OUTSIDE);
        due.is("20: OUTSIDE what 2, ahead of CAST", x.drift(1, 0, 0, 1, 0, 2), TideSeats.OUTSIDE);
        due.is("20: CAST", x.drift(1, 0, 99, 1, 0, 0), -12);
        due.is("20: fault() of CAST", x.fault(), 2);
        due.is("20: NULL", x.drift(2, 0, 99, 1, 0, 0), -11);
        due.is("20: fault() of NULL", x.fault(), 1);
        due.is("20: INDEX", x.drift(1, 1, 30, 1, 0, 0), -13);
        due.is("20: INDEX of none", x.drift(1, 1, 31, 0, 0, 0), -13);
        due.is("20: INDEX below", x.drift(1, 1, -1, 0, 0, 0), -13);
        due.is("20: fault() of INDEX", x.fault(), 3);
        x.put(1, 1, 4);
        due.is("20: UNKNOWN pool 4", x.drift(1, 1, 0, 2, 0, 0), TideSeats.UNKNOWN);
        due.is("20: fault() of UNKNOWN", x.fault(), 0);
        x.put(1, 1, -1);
        due.is("20: UNKNOWN pool -1", x.drift(1, 1, 0, 2, 0, 1), TideSeats.UNKNOWN);
        due.is("20: a cell that is not told", x.drift(1, 1, 0, 1, 0, 0), 2);
        TideSeats none = new TideSeats();
        Due.lay(none, 1, 1, 9);
        due.is("20: STATE ahead of UNKNOWN", none.drift(1, 1, 0, 1, 0, 0), TideSeats.STATE);
        due.is("20: STATE of no pools", none.drift(1, 1, 0, 0, 0, 0), TideSeats.STATE);
        due.is("20: INDEX ahead of STATE", none.drift(1, 1, 0, 2, 0, 0), -13);
    }

    private static void leapRow(TideSeats x, int a, int b, int... row) {
        String call = "21: leaps(" + a + ", " + b + ", ";
        due.is(call + "-1)", x.leaps(a, b, -1), row.length == 0 ? TideSeats.NONE : row.length - 1);
        for (int k = 0; k <= 5; k++) {
            due.is(call + k + ")", x.leaps(a, b, k), k < row.length ? row[k] : TideSeats.NONE);
        }
    }

    private static void leaps() {
        TideSeats x = Due.on("r102,91,11,31,31,51,71;s00");
        leapRow(x, 1, 1, 1);
        leapRow(x, 1, 2, 1, 2);
        leapRow(x, 1, 4, 1, 2, 4);
        leapRow(x, 4, 1, 4, 2, 1);
        leapRow(x, 1, 0, 1, 2, 4, 5, 0);
        leapRow(x, 2, 3, 2, 3);
        x.leap(1);
        leapRow(x, 1, 0);
        leapRow(x, 0, 0, 0);
        leapRow(x, 2, 3, 2, 3);
        x.leap(9);
        leapRow(x, 1, 0, 1, 0);
        x = Due.on("r101,11,21,31,41,51,61;s00");
        leapRow(x, 0, 5, 0, 1, 2, 3, 4, 5);
        leapRow(x, 5, 0, 5, 4, 3, 2, 1, 0);
        x.leap(0);
        leapRow(x, 0, 1);
    }

    private static void tideRow(TideSeats x, int m, int q, int... row) {
        String call = "22: elect(" + m + ", " + q + ", ";
        boolean none = row.length == 1 && row[0] < 0;
        due.is(call + "-1)", x.elect(m, q, -1), none ? TideSeats.NONE : row.length);
        for (int k = 0; k <= 4; k++) {
            due.is(call + k + ")", x.elect(m, q, k), !none && k < row.length ? row[k] : TideSeats.NONE);
        }
    }

    private static void elect() {
        TideSeats x = Due.on(TEXT);
        tideRow(x, 0, 0);
        tideRow(x, 0, 1, 6, 6);
        tideRow(x, 0, 2, 6);
        tideRow(x, 0, 3, 6, 6, 8);
        tideRow(x, 1, 0, 4);
        tideRow(x, 1, 3, 8);
        x = Due.on("r100,11,11,11,11,11,11;s00;c00;l30");
        tideRow(x, 0, 5, 2, 2, 2, 2, 2);
        tideRow(x, 0, 1, 2);
        tideRow(x, 1, 1, -1);
        tideRow(x, 1, 0);
        tideRow(x, 2, 0, -1);
        x.raise(3, 9);
        tideRow(x, 0, 3, -1);
        tideRow(x, 0, 4, 2, 2, 2);
        x = Due.on("r100,81,81;s00");
        tideRow(x, 0, 1, 9);
        due.is("22: nothing is changed", x.ofMember(0, 1), 0);
    }

    private static void refusals() {
        TideSeats x = Due.on(TEXT);
        TideSeats none = new TideSeats();
        due.is("18: OUTSIDE -1", x.best(-1), TideSeats.OUTSIDE);
        due.is("18: OUTSIDE 2", none.best(2), TideSeats.OUTSIDE);
        due.is("18: STATE", none.best(0), TideSeats.STATE);
        due.is("19: OUTSIDE -1", x.turn(-1), TideSeats.OUTSIDE);
        due.is("19: OUTSIDE 10", none.turn(10), TideSeats.OUTSIDE);
        due.is("19: STATE", none.turn(9), TideSeats.STATE);
        due.is("21: UNKNOWN a 4", x.leaps(4, 0, 9), TideSeats.UNKNOWN);
        due.is("21: UNKNOWN a -1", x.leaps(-1, 0, 9), TideSeats.UNKNOWN);
        due.is("21: UNKNOWN b 4", x.leaps(0, 4, 9), TideSeats.UNKNOWN);
        due.is("21: UNKNOWN b -1", x.leaps(0, -1, 9), TideSeats.UNKNOWN);
        due.is("21: OUTSIDE -2", x.leaps(0, 0, -2), TideSeats.OUTSIDE);
        due.is("21: OUTSIDE 6", x.leaps(0, 0, 6), TideSeats.OUTSIDE);
        due.is("21: UNKNOWN without a shore", none.leaps(0, 0, 0), TideSeats.UNKNOWN);
        due.is("22: UNKNOWN member 5", x.elect(5, 0, 9), TideSeats.UNKNOWN);
        due.is("22: UNKNOWN member -1", x.elect(-1, 0, 9), TideSeats.UNKNOWN);
        due.is("22: UNKNOWN pool 4", x.elect(0, 4, 9), TideSeats.UNKNOWN);
        due.is("22: UNKNOWN pool -1", x.elect(0, -1, 9), TideSeats.UNKNOWN);
        due.is("22: OUTSIDE -2", x.elect(0, 0, -2), TideSeats.OUTSIDE);
        due.is("22: OUTSIDE 5", x.elect(0, 0, 5), TideSeats.OUTSIDE);
        due.is("22: UNKNOWN without a shore", none.elect(0, 0, 0), TideSeats.UNKNOWN);
    }
}
