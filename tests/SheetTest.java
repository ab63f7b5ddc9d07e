/** Promises 29 to 39: sheets, telling, trace, faults, counts. */
public final class SheetTest {
    private static final Due due = new Due();

    public static void main(String[] args) {
        newRows();
        lost();
        cells();
        faultsOfCells();
        copies();
        faultsOfCopies();
        telling();
        names();
        takenAs();
        valuesOfTelling();
        traceWraps();
        lastCall();
        faults();
        counts();
        due.end();
    }

    private static void newRows() {
        TideSeats x = new TideSeats();
        due.is("29: 60 cells", x.sheet(3, 2, 60), 1);
        due.is("29: the last cell", x.cell(3, 59, 2), 0);
        x.put(3, 0, 8);
        x.put(3, 5, 8);
        x.put(3, 59, 8);
        due.is("29: a new row", x.sheet(3, 1, 6), 1);
        due.is("29: 0 at first", x.cell(3, 5, 1), 0);
        due.is("29: cell 0, too", x.cell(3, 0, 1), 0);
        x.sheet(3, 1, 60);
        due.is("29: the last one, too", x.cell(3, 59, 1), 0);
        x.sheet(3, 1, 6);
        due.is("29: no cell 6", x.cell(3, 6, 1), TideSeats.LOST);
        x.put(3, 5, 8);
        due.is("29: UNKNOWN 4", x.sheet(4, 3, 61), TideSeats.UNKNOWN);
        due.is("29: UNKNOWN -1", x.sheet(-1, 3, -1), TideSeats.UNKNOWN);
        due.is("29: OUTSIDE lane 3", x.sheet(3, 3, -1), TideSeats.OUTSIDE);
        due.is("29: OUTSIDE lane -1", x.sheet(3, -1, 1), TideSeats.OUTSIDE);
        due.is("29: OUTSIDE n 61", x.sheet(3, 0, 61), TideSeats.OUTSIDE);
        due.is("29: fault() of a refused call", x.fault(), 0);
        due.is("29: SIZE", x.sheet(3, 0, -1), -14);
        due.is("29: fault() of SIZE", x.fault(), 4);
        due.is("29: SIZE, far below", x.sheet(3, 0, Integer.MIN_VALUE), -14);
        due.is("29: nothing is changed", x.cell(3, 5, 1), 8);
        due.is("29: a row of none", x.sheet(3, 0, 0), 1);
        due.is("29: INDEX of none", x.put(3, 0, 1), -13);
        due.is("29: a row of none is no nothing", x.lose(3), 1);
    }

    private static void lost() {
        TideSeats x = new TideSeats();
        due.is("30: nothing", x.lose(0), 0);
        x.sheet(0, 0, 1);
        x.put(0, 1, 0);
        due.is("30: a row", x.lose(0), 1);
        due.is("30: names no fault", x.fault(), 3);
        due.is("30: nothing again", x.lose(0), 0);
        due.is("30: NULL then", x.put(0, 0, 0), -11);
        due.is("30: UNKNOWN 4", x.lose(4), TideSeats.UNKNOWN);
        due.is("30: UNKNOWN -1", x.lose(-1), TideSeats.UNKNOWN);
        x.sheet(0, 0, 1);
        due.is("30: a new row then", x.lose(0), 1);
        for (int lost = 0; lost <= 3; lost++) {
            x = new TideSeats();
            for (int k = 0; k <= 3; k++) {
                Due.lay(x, k, 0, 7 + k);
            }
            due.is("30: sheet " + lost, x.lose(lost), 1);
            for (int k = 0; k <= 3; k++) {
                due.is("30: sheet " + k + " behind it", x.cell(k, 0, 0), k == lost ? TideSeats.LOST : 7 + k);
            }
        }
    }

    private static void cells() {
        TideSeats x = new TideSeats();
        int[][] cut = {
            {127, 127, 127, 127}, {128, -128, 128, 128}, {-128, -128, -128, -128}, {-129, 127, -129, -129},
            {255, -1, 255, 255}, {256, 0, 256, 256}, {32767, -1, 32767, 32767}, {32768, 0, -32768, 32768},
            {-32768, 0, -32768, -32768}, {-32769, -1, 32767, -32769}, {65537, 1, 1, 65537}, {-1, -1, -1, -1},
            {Integer.MIN_VALUE, 0, 0, Integer.MIN_VALUE}, {Integer.MAX_VALUE, -1, -1, Integer.MAX_VALUE},
        };
        for (int lane = 0; lane <= 2; lane++) {
            x.sheet(lane, lane, 3);
            for (int[] row : cut) {
                due.is("31: put " + row[0], x.put(lane, 2, row[0]), 1);
                due.is("32: " + row[0] + " in lane " + lane, x.cell(lane, 2, lane), row[1 + lane]);
                due.is("32: the cell ahead", x.cell(lane, 1, lane), 0);
            }
        }
        due.is("32: fault()", x.fault(), 0);
    }

    private static void faultsOfCells() {
        TideSeats x = new TideSeats();
        x.sheet(0, 1, 3);
        due.is("31: UNKNOWN 4", x.put(4, 9, 0), TideSeats.UNKNOWN);
        due.is("31: UNKNOWN -1", x.put(-1, 0, 0), TideSeats.UNKNOWN);
        due.is("31: NULL", x.put(1, -1, 0), -11);
        due.is("31: fault() of NULL", x.fault(), 1);
        due.is("31: INDEX 3", x.put(0, 3, 0), -13);
        due.is("31: INDEX -1", x.put(0, -1, 0), -13);
        due.is("31: INDEX far below", x.put(0, Integer.MIN_VALUE, 0), -13);
        due.is("31: fault() of INDEX", x.fault(), 3);
        due.is("31: UNKNOWN once more", x.put(4, 0, 0), TideSeats.UNKNOWN);
        due.is("31: fault() of UNKNOWN", x.fault(), 0);
        lostCell(x, 0, 3, 1, 3);
        lostCell(x, 4, 0, 0, 0);
        lostCell(x, 0, 9, 0, 2);
        lostCell(x, 0, 0, 3, 0);
        lostCell(x, 1, 9, 0, 1);
        lostCell(x, 1, 0, -1, 0);
        lostCell(x, 0, -1, 1, 3);
        lostCell(x, -1, 0, 1, 0);
        lostCell(x, 0, Integer.MAX_VALUE, 1, 3);
        lostCell(x, 0, 0, 2, 2);
        due.is("32: a cell", x.cell(0, 2, 1), 0);
        due.is("32: fault() of a cell", x.fault(), 0);
    }

    private static void lostCell(TideSeats x, int k, int i, int lane, int fault) {
        String call = "32: cell(" + k + ", " + i + ", " + lane + ")";
        due.is(call, x.cell(k, i, lane), TideSeats.LOST);
        due.is("fault() of " + call, x.fault(), fault);
    }

    private static void row(TideSeats x, int k, int lane, int... want) {
        for (int i = 0; i < want.length; i++) {
            due.is("33: cell " + i + " of " + k, x.cell(k, i, lane), want[i]);
        }
    }

    private static void copies() {
        TideSeats x = new TideSeats();
        Due.lay(x, 0, 1, 1, 2, 3, 4, 5);
        Due.lay(x, 1, 1, 11, 12, 13);
        due.is("33: to another one", x.copy(0, 1, 1, 0, 2), 2);
        row(x, 1, 1, 2, 3, 13);
        due.is("33: to the same, on", x.copy(0, 0, 0, 1, 4), 4);
        row(x, 0, 1, 1, 1, 2, 3, 4);
        due.is("33: to the same, back", x.copy(0, 1, 0, 0, 4), 4);
        row(x, 0, 1, 1, 2, 3, 4, 4);
        due.is("33: none, behind the last", x.copy(0, 5, 1, 3, 0), 0);
        due.is("33: all", x.copy(1, 0, 0, 2, 3), 3);
        row(x, 0, 1, 1, 2, 2, 3, 13);
        row(x, 1, 1, 2, 3, 13);
        due.is("33: fault()", x.fault(), 0);
        x.sheet(2, 1, 0);
        due.is("33: none of a sheet of none to another", x.copy(2, 0, 0, 5, 0), 0);
        due.is("33: none to a sheet of none", x.copy(0, 5, 2, 0, 0), 0);
        due.is("33: one to a sheet of none", x.copy(0, 0, 2, 0, 1), -13);
        due.is("33: all to itself", x.copy(0, 0, 0, 0, 5), 5);
        row(x, 0, 1, 1, 2, 2, 3, 13);
        x.sheet(2, 0, 60);
        x.sheet(3, 0, 60);
        x.put(2, 59, 7);
        due.is("33: 60 cells", x.copy(2, 0, 3, 0, 60), 60);
        due.is("33: the last of 60", x.cell(3, 59, 0), 7);
        due.is("33: 61 cells", x.copy(2, 0, 3, 0, 61), -13);
    }

    private static void faultsOfCopies() {
        TideSeats x = new TideSeats();
        Due.lay(x, 0, 1, 1, 2, 3);
        Due.lay(x, 1, 1, 4, 5);
        Due.lay(x, 2, 2, 6, 7, 8);
        copyFault(x, 3, 9, 3, 9, -1, 1);
        copyFault(x, 3, 9, 0, 9, -1, 1);
        copyFault(x, 0, 9, 3, 9, -1, 1);
        copyFault(x, 0, 9, 2, 9, -1, 2);
        copyFault(x, 2, 0, 0, 0, 0, 2);
        copyFault(x, 0, -1, 1, 0, 1, 3);
        copyFault(x, 0, 0, 1, -1, 1, 3);
        copyFault(x, 0, 0, 1, 0, -1, 3);
        copyFault(x, 0, 4, 1, 0, 0, 3);
        copyFault(x, 0, 0, 1, 3, 0, 3);
        copyFault(x, 0, 2, 1, 0, 2, 3);
        copyFault(x, 0, 0, 1, 1, 2, 3);
        copyFault(x, 0, 1, 1, 0, Integer.MAX_VALUE, 3);
        copyFault(x, 0, Integer.MAX_VALUE, 1, 0, 1, 3);
        copyFault(x, 0, 0, 1, Integer.MAX_VALUE, 1, 3);
        copyFault(x, 0, 0, 1, 0, Integer.MIN_VALUE, 3);
        row(x, 0, 1, 1, 2, 3);
        row(x, 1, 1, 4, 5);
        x.put(0, 9, 9);
        due.is("33: UNKNOWN 4", x.copy(4, 9, 0, 9, -1), TideSeats.UNKNOWN);
        due.is("33: fault() of UNKNOWN", x.fault(), 0);
        due.is("33: UNKNOWN other 4, ahead of NULL", x.copy(3, 0, 4, 0, 0), TideSeats.UNKNOWN);
        due.is("33: UNKNOWN -1", x.copy(-1, 0, 0, 0, 0), TideSeats.UNKNOWN);
        due.is("33: UNKNOWN other -1", x.copy(0, 0, -1, 0, 0), TideSeats.UNKNOWN);
    }

    private static void copyFault(TideSeats x, int k, int i, int other, int j, int n, int fault) {
        String call = "33: copy(" + k + ", " + i + ", " + other + ", " + j + ", " + n + ")";
        due.is(call, x.copy(k, i, other, j, n), -10 - fault);
        due.is("fault() of " + call, x.fault(), fault);
    }

    private static int traceOf(int... bodies) {
        int trace = 0;
        for (int body : bodies) {
            trace = trace * 31 + body;
        }
        return trace;
    }

    private static void telling() {
        TideSeats x = Due.on("r100,11,11;s05;c07;l09");
        due.is("34: a shrimp", x.tell(0), 5);
        due.is("37: its trace", x.trace(), traceOf(1));
        due.is("34: a crab", x.tell(1), 107);
        due.is("37: its trace", x.trace(), traceOf(1, 2, 1));
        due.is("34: a limpet", x.tell(2), 118);
        due.is("37: its trace", x.trace(), traceOf(1, 2, 1, 3, 2, 1, 1));
        due.is("34: UNKNOWN 3", x.tell(3), TideSeats.UNKNOWN);
        due.is("34: UNKNOWN -1", x.tell(-1), TideSeats.UNKNOWN);
        due.is("34: UNKNOWN without a shore", new TideSeats().tell(0), TideSeats.UNKNOWN);
        due.is("37: refusals leave nothing", x.trace(), traceOf(1, 2, 1, 3, 2, 1, 1));
        x.sway(2, 0);
        due.is("34: by the view that is", x.tell(2), 100);
    }

    private static void valuesOfTelling() {
        TideSeats x = Due.on("r100,11,11;s00;s09;c00;c09;l00;l19");
        int[] want = {0, 9, 100, 109, 100, 118};
        for (int m = 0; m < want.length; m++) {
            due.is("34: tell(" + m + ")", x.tell(m), want[m]);
            due.is("35: name(" + m + ")", x.name(m), m < 4 ? m : 60);
        }
        due.is("34: UNKNOWN 6", x.tell(6), TideSeats.UNKNOWN);
        due.is("35: UNKNOWN 6", x.name(6), TideSeats.UNKNOWN);
    }

    private static void names() {
        TideSeats x = Due.on("r100,11,11;l05;c07;s09;l09");
        due.is("35: a crab", x.name(1), 1);
        due.is("37: its trace", x.trace(), traceOf(4));
        due.is("35: a shrimp", x.name(2), 2);
        due.is("35: a limpet", x.name(0), 60);
        due.is("37: its trace", x.trace(), traceOf(4, 4, 5));
        due.is("35: another limpet", x.name(3), 60);
        due.is("35: UNKNOWN 4", x.name(4), TideSeats.UNKNOWN);
        due.is("35: UNKNOWN -1", x.name(-1), TideSeats.UNKNOWN);
        due.is("35: UNKNOWN without a shore", new TideSeats().name(0), TideSeats.UNKNOWN);
        due.is("37: refusals leave nothing", x.trace(), traceOf(4, 4, 5, 5));
    }

    private static void takenAs() {
        TideSeats x = Due.on("r100,11,11;s05;c07;l09");
        for (int m = 0; m <= 2; m++) {
            for (int kind = 0; kind <= 2; kind++) {
                due.is("36: as(" + m + ", " + kind + ")", x.as(m, kind), kind <= m ? 1 : -12);
                due.is("36: fault()", x.fault(), kind <= m ? 0 : 2);
            }
        }
        x.as(0, 2);
        due.is("36: UNKNOWN 3", x.as(3, 9), TideSeats.UNKNOWN);
        due.is("36: fault() of UNKNOWN", x.fault(), 0);
        due.is("36: UNKNOWN -1", x.as(-1, 0), TideSeats.UNKNOWN);
        due.is("36: OUTSIDE 3", x.as(0, 3), TideSeats.OUTSIDE);
        due.is("36: OUTSIDE -1", x.as(0, -1), TideSeats.OUTSIDE);
        due.is("36: UNKNOWN without a shore", new TideSeats().as(0, 0), TideSeats.UNKNOWN);
        due.is("36: kinds stay", x.ofMember(0, 0), 0);
        due.is("37: it leaves nothing", x.trace(), 0);
    }

    private static void traceWraps() {
        TideSeats x = Due.on("r100,11,11;l05");
        int trace = 0;
        for (int i = 0; i < 40; i++) {
            x.tell(0);
            for (int body : new int[] {3, 2, 1, 1}) {
                trace = trace * 31 + body;
            }
            due.is("37: wraps", x.trace(), trace);
        }
    }

    /** An object is used for at most 512 calls: the last of them is answered as the first is. */
    private static void lastCall() {
        TideSeats x = Due.on("r100,11,11;l05");
        int trace = 0;
        for (int call = 17; call <= 511; call++) {
            x.name(0);
            trace = trace * 31 + 5;
        }
        due.is("37: the 512th call", x.trace(), trace);
    }

    private static void faults() {
        TideSeats x = new TideSeats();
        due.is("38: ahead of any", x.fault(), 0);
        x.sheet(0, 0, -1);
        due.is("38: of sheet", x.fault(), 4);
        due.is("38: again", x.fault(), 4);
        x.lose(0);
        x.trace();
        x.many(0);
        x.ofPool(0, 0);
        x.tell(0);
        x.odds(0, 0, 0);
        due.is("38: other calls name none", x.fault(), 4);
        x.sheet(0, 0, 2);
        due.is("38: came to none", x.fault(), 0);
        x.put(0, 2, 2);
        due.is("38: of put", x.fault(), 3);
        x.as(0, 0);
        due.is("38: as was refused", x.fault(), 0);
        x.put(0, 2, 2);
        x.year(0, 0, 0, 0, 4);
        due.is("38: year was refused", x.fault(), 0);
        x.put(0, 2, 2);
        x.drift(0, 0, 0, 0, 0, 2);
        due.is("38: drift was refused", x.fault(), 0);
        x.put(0, 2, 2);
        x.cell(9, 0, 0);
        due.is("38: cell was refused", x.fault(), 0);
        x.put(0, 2, 2);
        x.copy(0, 0, 0, 0, 0);
        due.is("38: copy came to none", x.fault(), 0);
        x.put(0, 2, 2);
        x.shore(0, 0, 0, 2);
        due.is("38: a text that is none is no fault", x.fault(), 0);
    }

    private static void counts() {
        TideSeats x = Due.on("r297,11,11,11;l05;s00");
        int[] want = {2, 3, 2, 9, 7, 1};
        x.reading(0, 0, 0);
        for (int what = 0; what <= 5; what++) {
            due.is("39: many(" + what + ")", x.many(what), want[what]);
        }
        due.is("39: OUTSIDE -1", x.many(-1), TideSeats.OUTSIDE);
        due.is("39: OUTSIDE 6", x.many(6), TideSeats.OUTSIDE);
        due.is("39: OUTSIDE without a shore", new TideSeats().many(6), TideSeats.OUTSIDE);
    }
}
