/** Promises 1 to 10: a new object, texts, pools, members and what is changed of them. */
public final class ShoreTest {
    private static final String TEXT = "r212,32,51,14,73;s05;c27;l01;s33;c19";
    private static final String LONGEST = "r399,11,22,33,44,55,99;s00;c10;l20;s30;c40;l59";
    private static final Due due = new Due();

    public static void main(String[] args) {
        newObject();
        textsThatAreTaken();
        fewestAndMost();
        firstFaults();
        codesLeftOutOrTwice();
        partsLeftOut();
        beginningsOfTheLongest();
        rowsOfTexts();
        takenAnew();
        changedThenAnew();
        refusalsOfShore();
        faultsOfShore();
        pools();
        members();
        changes();
        spans();
        changesThatChangeNothing();
        changesWithoutShore();
        due.end();
    }

    private static void newObject() {
        TideSeats x = new TideSeats();
        for (int what = 0; what <= 5; what++) {
            due.is("1: many(" + what + ")", x.many(what), 0);
        }
        for (int k = 0; k <= 3; k++) {
            due.is("1: lose(" + k + ")", x.lose(k), 0);
            due.is("1: ofPool(" + k + ", 0)", x.ofPool(k, 0), TideSeats.UNKNOWN);
            due.is("1: ofMember(" + k + ", 0)", x.ofMember(k, 0), TideSeats.UNKNOWN);
        }
        due.is("1: fault()", x.fault(), 0);
        due.is("1: trace()", x.trace(), 0);
        due.is("1: a shore on nothing", x.shore(0, 0, 0, 0), -11);
        due.is("1: a cell of nothing", x.cell(0, 0, 0), TideSeats.LOST);
        due.is("1: its fault()", x.fault(), 1);
    }

    private static void textsThatAreTaken() {
        TideSeats x = Due.on(TEXT);
        due.is("2: members", x.many(0), 5);
        due.is("2: pools", x.many(1), 4);
        due.is("2: stream", x.many(2), 2);
        due.is("2: mild", x.many(3), 1);
        due.is("2: leap", x.many(4), 2);
        due.is("2: longest", Due.shore(x, LONGEST), 6);
        due.is("2: pools of longest", x.many(1), 6);
        due.is("2: depth of the last pool", x.ofPool(5, 1), 9);
        due.is("2: shortest", Due.shore(x, "r100,11,99;l19"), 1);
        due.is("2: pool of shortest", x.ofMember(0, 1), 1);
        due.is("2: kind of shortest", x.ofMember(0, 0), 2);
        for (int lane = 0; lane <= 2; lane++) {
            Due.lay(x, lane, lane, Due.codes("xx" + TEXT + "x"));
            due.is("2: from cell 2 on, lane " + lane, x.shore(lane, lane, 2, TEXT.length()), 5);
            due.is("2: fault() behind it", x.fault(), 0);
        }
    }

    private static void fewestAndMost() {
        String[] texts = {
            "r100,11,11;s00", "r399,99,99;l19", "r100,11,11;s00;s00;s00;s00;s00;c19", "r100,11,11,11,11,11,99;l59", LONGEST,
        };
        int[][] want = {{2, 1, 1, 0, 0}, {2, 1, 3, 9, 9}, {2, 6, 1, 0, 0}, {6, 1, 1, 0, 0}, {6, 6, 3, 9, 9}};
        int[][] last = {{1, 1, 0, 0, 0}, {9, 9, 2, 1, 9}, {1, 1, 1, 1, 9}, {9, 9, 2, 5, 9}, {9, 9, 2, 5, 9}};
        for (int t = 0; t < texts.length; t++) {
            TideSeats x = Due.on(texts[t]);
            int q = want[t][0] - 1;
            int m = want[t][1] - 1;
            int[] got = {x.many(1), x.many(0), x.many(2), x.many(3), x.many(4)};
            int[] ends = {x.ofPool(q, 0), x.ofPool(q, 1), x.ofMember(m, 0), x.ofMember(m, 1), x.ofMember(m, 2)};
            for (int k = 0; k < 5; k++) {
                due.is("2: number " + k + " of " + texts[t], got[k], want[t][k]);
                due.is("2: number " + k + " of the last ones of " + texts[t], ends[k], last[t][k]);
            }
            due.is("2: no further pool of " + texts[t], x.ofPool(q + 1, 0), TideSeats.UNKNOWN);
            due.is("2: no further member of " + texts[t], x.ofMember(m + 1, 0), TideSeats.UNKNOWN);
        }
    }

    /** Of the longest text each beginning is a text behind a member, and ends too soon elsewhere. */
    private static void beginningsOfTheLongest() {
        int head = LONGEST.indexOf(';');
        for (int n = 0; n <= LONGEST.length(); n++) {
            boolean isText = n > head && (n - head) % 4 == 0;
            int want = isText ? (n - head) / 4 : -100 - n;
            due.is("2: " + n + " codes of the longest", Due.shore(new TideSeats(), LONGEST.substring(0, n)), want);
        }
        for (char more : ";,sclr09 ".toCharArray()) {
            due.is("2: a code too many, " + more, Due.shore(new TideSeats(), LONGEST + more), -100 - LONGEST.length());
        }
    }

    private static void rowsOfTexts() {
        TideSeats x = new TideSeats();
        String text = "r100,11,99;l19";
        Due.lay(x, 1, 1, Due.codes("......" + text));
        due.is("2: a row that ends with the sheet", x.shore(1, 1, 6, 14), 1);
        due.is("2: one that goes beyond it", x.shore(1, 1, 6, 15), -13);
        due.is("2: one of no cells at the sheet's end", x.shore(1, 1, 20, 0), -100);
        due.is("2: one of no cells behind that", x.shore(1, 1, 21, 0), -13);
        due.is("2: one of no cells ahead of the first", x.shore(1, 1, -1, 0), -13);
        x.sheet(2, 2, 0);
        due.is("2: no cells of a sheet of none", x.shore(2, 2, 0, 0), -100);
        due.is("2: a cell of a sheet of none", x.shore(2, 2, 0, 1), -13);
        due.is("2: a sheet of none is of its lane", x.shore(2, 1, 0, 0), -12);
        Due.lay(x, 0, 0, new int[60]);
        due.is("2: the longest row", x.shore(0, 0, 0, 60), -100);
        due.is("2: beyond the longest row", x.shore(0, 0, 0, 61), -13);
        due.is("2: the first shore is there still", x.many(0), 1);
    }

    private static void firstFault(String text, int place) {
        TideSeats x = Due.on("r121,11,11;s00;s00");
        due.is("2: shore of " + text, Due.shore(x, text), -100 - place);
        due.is("2: fault() behind " + text, x.fault(), 0);
        due.is("2: members behind " + text, x.many(0), 2);
        due.is("2: mild behind " + text, x.many(3), 2);
        due.is("2: heights behind " + text, x.ofPool(0, 0), 1);
    }

    private static void firstFaults() {
        for (int n = 0; n < 14; n++) {
            firstFault("r100,11,99;l19".substring(0, n), n);
        }
        String[] wrongFrom = {
            "R", "q", "r0", "r4", "r1/", "r1:", "r1a", "r10/", "r10:", "r100;", "r100x", "r100,0", "r100,/", "r100,:",
            "r100,10", "r100,1:", "r100,11x", "r100,11;", "r100,11,11x", "r100,111", "r100,11,11;x", "r100,11,11;0", "r100,11,11;r",
            "r100,11,11;S", "r100,11,11;s2", "r100,11,11;s/", "r100,11,11;s0:", "r100,11,11;s0/", "r100,11,11;s00,",
            "r100,11,11;s00x", "r100,11,11;s000", "r100,11,11,11;s3", "r100,11,11,11,11,11,11,", "r100,11,11,11,11,11,11x",
            "r100,11,11,11,11,11,11;s6", "r100,11,11;s00;s00;s00;s00;s00;s00;", "r100,11,11;s00;s00;s00;s00;s00;s00,",
        };
        firstFault("r9x", 1);
        firstFault("r1x9", 2);
        firstFault("r100,1x,", 6);
        firstFault("r100;,", 4);
        firstFault("r100,11,11;x99", 11);
        firstFault("r100,11,11,11,11,11,11,;", 22);
        for (String text : wrongFrom) {
            firstFault(text, text.length() - 1);
            firstFault(text + "11;s00", text.length() - 1);
        }
        TideSeats x = Due.on("r100,11,99;l19");
        Due.lay(x, 0, 2, 114 + 256, 49);
        due.is("2: a code beyond bytes", x.shore(0, 2, 0, 2), -100);
        Due.lay(x, 0, 2, 114, Integer.MIN_VALUE + 49);
        due.is("2: a code that would wrap", x.shore(0, 2, 0, 2), -101);
        Due.lay(x, 0, 0, Due.codes("zzr1x"));
        due.is("2: the place is told from the text on", x.shore(0, 0, 2, 3), -102);
        due.is("2: no codes", x.shore(0, 0, 5, 0), -100);
    }

    /** Behind each text that is none the whole one is taken by the same object: nothing of the other is left. */
    private static void codesLeftOutOrTwice() {
        String whole = "r123,45,67;s08;c19";
        int[] leftOut = {0, 3, 3, 3, 4, 6, 6, 7, 9, 9, 10, 11, 12, 13, 14, 15, 16, 17};
        int[] twice = {1, 4, 4, 4, 5, 7, 7, 8, 10, 10, 11, 12, 14, 14, 15, 16, 18, 18};
        TideSeats x = new TideSeats();
        for (int place = 0; place < whole.length(); place++) {
            String ahead = whole.substring(0, place);
            firstFault(ahead + whole.substring(place + 1), leftOut[place]);
            firstFault(ahead + whole.charAt(place) + whole.substring(place), twice[place]);
            Due.shore(x, ahead + whole.substring(place + 1));
            due.is("2: the whole text behind one without code " + place, Due.shore(x, whole), 2);
            due.is("2: its last depth", x.ofPool(1, 1), 7);
            due.is("2: its last view", x.ofMember(1, 2), 9);
        }
    }

    private static void partsLeftOut() {
        firstFault(",45,67;s08;c19", 0);
        firstFault("r,45,67;s08;c19", 1);
        firstFault("r1,45,67;s08;c19", 2);
        firstFault("r123;s08;c19", 4);
        firstFault("r123,45;s08;c19", 7);
        firstFault("r123,,67;s08;c19", 5);
        firstFault("r123,45,;s08;c19", 8);
        firstFault("r123,45,67,;s08;c19", 11);
        firstFault("r123,45,67,8;s08;c19", 12);
        firstFault("r123,45,67;;c19", 11);
        firstFault("r123,45,67;s;c19", 12);
        firstFault("r123,45,67;s08;c", 16);
        firstFault("r123,45,67;s08,89;c19", 14);
    }

    /** All that a text tells is as it tells it, whatever it was changed to ahead of it. */
    private static void changedThenAnew() {
        TideSeats x = Due.on(TEXT);
        x.raise(0, 9);
        x.sway(1, 9);
        x.seat(2, 3);
        x.flow(3);
        x.calm(9);
        x.leap(9);
        x.tide(9);
        due.is("2: the same text anew", Due.shore(x, TEXT), 5);
        int[] got = {x.many(2), x.many(3), x.many(4), x.ofPool(0, 0), x.ofMember(1, 2), x.ofMember(2, 1), x.ofMember(3, 1)};
        int[] want = {2, 1, 2, 3, 7, 0, 3};
        for (int k = 0; k < got.length; k++) {
            due.is("2: number " + k + " of the text anew", got[k], want[k]);
        }
        due.is("2: who sits in pool 0 anew", x.ofPool(0, 2), Due.set(0, 2));
    }

    private static void takenAnew() {
        TideSeats x = Due.on(TEXT);
        x.reading(0, 9, 0);
        x.tell(0);
        Due.lay(x, 1, 2, 7);
        Due.shore(x, "r1");
        due.is("2: readings behind a text that is none", x.many(5), 1);
        Due.shore(x, "r100,11,99;l19");
        due.is("2: no readings", x.many(5), 0);
        due.is("2: trace stays", x.trace(), 1);
        due.is("2: sheets stay", x.cell(1, 0, 2), 7);
        due.is("2: pools are gone", x.ofPool(2, 0), TideSeats.UNKNOWN);
        due.is("2: members are gone", x.ofMember(1, 0), TideSeats.UNKNOWN);
    }

    private static void refusalsOfShore() {
        TideSeats x = Due.on(TEXT);
        x.put(3, 99, 0);
        due.is("2: UNKNOWN -1", x.shore(-1, 3, 0, -1), TideSeats.UNKNOWN);
        due.is("2: fault() of a refused call", x.fault(), 0);
        due.is("2: UNKNOWN 4", x.shore(4, -1, 0, 1), TideSeats.UNKNOWN);
        x.put(3, 99, 0);
        due.is("2: OUTSIDE lane 3", x.shore(0, 3, 0, -1), TideSeats.OUTSIDE);
        due.is("2: fault() of OUTSIDE", x.fault(), 0);
        due.is("2: OUTSIDE lane -1", x.shore(3, -1, 0, 1), TideSeats.OUTSIDE);
    }

    private static void faultOfShore(TideSeats x, int sheet, int lane, int i, int n, int fault) {
        String call = "2: shore(" + sheet + ", " + lane + ", " + i + ", " + n + ")";
        due.is(call, x.shore(sheet, lane, i, n), -10 - fault);
        due.is("fault() of " + call, x.fault(), fault);
        due.is("members behind " + call, x.many(0), 5);
    }

    private static void faultsOfShore() {
        TideSeats x = Due.on(TEXT);
        x.sheet(1, 1, 4);
        faultOfShore(x, 1, 0, 9, -1, 2);
        faultOfShore(x, 1, 2, 0, 1, 2);
        faultOfShore(x, 0, 0, 9, -1, 1);
        faultOfShore(x, 0, 2, 0, 0, 1);
        faultOfShore(x, 1, 1, 9, -1, 4);
        faultOfShore(x, 1, 1, 0, Integer.MIN_VALUE, 4);
        faultOfShore(x, 1, 1, -1, 0, 3);
        faultOfShore(x, 1, 1, 5, 0, 3);
        faultOfShore(x, 1, 1, 0, 5, 3);
        faultOfShore(x, 1, 1, 4, 1, 3);
        faultOfShore(x, 1, 1, 1, Integer.MAX_VALUE, 3);
        faultOfShore(x, 1, 1, Integer.MIN_VALUE, 2, 3);
        faultOfShore(x, 1, 1, Integer.MAX_VALUE, 2, 3);
        due.is("2: cells that are no codes", x.shore(1, 1, 0, 4), -100);
        due.is("2: fault() then", x.fault(), 0);
    }

    private static void pools() {
        TideSeats x = Due.on("r212,32,51,19;s05;c07;l01;s23;c09");
        int[][] want = {{3, 2, Due.set(0, 1, 2, 4), 12 / 5}, {5, 1, 0, 6}, {1, 9, Due.set(3), 27}};
        for (int q = 0; q <= 2; q++) {
            for (int what = 0; what <= 3; what++) {
                due.is("3: ofPool(" + q + ", " + what + ")", x.ofPool(q, what), want[q][what]);
            }
        }
        due.is("3: UNKNOWN -1", x.ofPool(-1, 9), TideSeats.UNKNOWN);
        due.is("3: UNKNOWN 3", x.ofPool(3, 9), TideSeats.UNKNOWN);
        due.is("3: OUTSIDE 4", x.ofPool(0, 4), TideSeats.OUTSIDE);
        due.is("3: OUTSIDE -1", x.ofPool(0, -1), TideSeats.OUTSIDE);
        due.is("3: UNKNOWN without a shore", new TideSeats().ofPool(0, 0), TideSeats.UNKNOWN);
    }

    private static void spans() {
        TideSeats x = Due.on("r100,11,91,59;s00;s00;s00;s00;s00;s00");
        due.is("3: the set of all who sit", x.ofPool(0, 2), 63);
        due.is("3: the set of nobody", x.ofPool(1, 2), 0);
        due.is("3: 6 by 7 is cut", x.ofPool(0, 3), 0);
        due.is("3: 6 by 1", x.ofPool(1, 3), 6);
        due.is("3: 54 by 1", x.ofPool(2, 3), 54);
        for (int m = 0; m < 6; m++) {
            x.seat(m, 2);
            due.is("3: 54 by " + (m + 2), x.ofPool(2, 3), new int[] {27, 18, 13, 10, 9, 7}[m]);
        }
        due.is("3: the height counts nothing", x.raise(2, 1), 5);
        due.is("3: 54 by 7, whatever the height", x.ofPool(2, 3), 7);
    }

    private static void changesThatChangeNothing() {
        TideSeats x = Due.on("r399,11,99;s09;l10");
        due.is("5: as high as it was", x.raise(1, 9), 9);
        due.is("5: as low as it was", x.raise(0, 1), 1);
        due.is("6: the view that it was", x.sway(0, 9), 9);
        due.is("6: the least view that it was", x.sway(1, 0), 0);
        due.is("7: to the pool in which one sits", x.seat(1, 1), 1);
        due.is("7: to the first pool, in which one sits", x.seat(0, 0), 0);
        due.is("8: as strong as it was", x.flow(3), 3);
        due.is("9: as mild as it was", x.calm(9), 9);
        due.is("10: as far as it was", x.leap(9), 9);
        int[] all = {x.ofPool(0, 0), x.ofPool(1, 0), x.ofMember(0, 2), x.ofMember(1, 2), x.ofMember(0, 1), x.ofMember(1, 1)};
        int[] want = {1, 9, 9, 0, 0, 1};
        for (int k = 0; k < all.length; k++) {
            due.is("5 to 7: number " + k, all[k], want[k]);
        }
    }

    private static void members() {
        TideSeats x = Due.on("r112,32,51,19;s05;c17;l21");
        int[][] steps = {{1, 0, 0}, {2, 1, 1}, {3, 2, 1}};
        for (int stream = 1; stream <= 3; stream++) {
            x.flow(stream);
            for (int m = 0; m <= 2; m++) {
                due.is("4: kind of " + m, x.ofMember(m, 0), m);
                due.is("4: pool of " + m, x.ofMember(m, 1), m);
                due.is("4: view of " + m, x.ofMember(m, 2), new int[] {5, 7, 1}[m]);
                due.is("4: carried by, " + m + " at " + stream, x.ofMember(m, 3), steps[stream - 1][m]);
            }
        }
        x = Due.on("r312,32,51,19;s25;c07;l11");
        due.is("4: a shrimp, wherever it sits", x.ofMember(0, 3), 3);
        due.is("4: a crab, wherever it sits", x.ofMember(1, 3), 2);
        due.is("4: a limpet, wherever it sits", x.ofMember(2, 3), 1);
        due.is("4: UNKNOWN -1", x.ofMember(-1, 9), TideSeats.UNKNOWN);
        due.is("4: UNKNOWN 3", x.ofMember(3, 9), TideSeats.UNKNOWN);
        due.is("4: OUTSIDE 4", x.ofMember(0, 4), TideSeats.OUTSIDE);
        due.is("4: OUTSIDE -1", x.ofMember(0, -1), TideSeats.OUTSIDE);
        due.is("4: UNKNOWN without a shore", new TideSeats().ofMember(0, 0), TideSeats.UNKNOWN);
    }

    private static void changes() {
        TideSeats x = Due.on(TEXT);
        due.is("5: raise to 9", x.raise(1, 9), 5);
        due.is("5: raise to 1", x.raise(1, 1), 9);
        due.is("5: height", x.ofPool(1, 0), 1);
        due.is("5: OUTSIDE 0", x.raise(1, 0), TideSeats.OUTSIDE);
        due.is("5: OUTSIDE 10", x.raise(1, 10), TideSeats.OUTSIDE);
        due.is("5: UNKNOWN 4", x.raise(4, 0), TideSeats.UNKNOWN);
        due.is("5: UNKNOWN -1", x.raise(-1, 1), TideSeats.UNKNOWN);
        due.is("5: height stays", x.ofPool(1, 0), 1);
        due.is("6: sway to 9", x.sway(4, 9), 9);
        due.is("6: sway to 0", x.sway(4, 0), 9);
        due.is("6: view", x.ofMember(4, 2), 0);
        due.is("6: OUTSIDE -1", x.sway(4, -1), TideSeats.OUTSIDE);
        due.is("6: OUTSIDE 10", x.sway(4, 10), TideSeats.OUTSIDE);
        due.is("6: UNKNOWN 5", x.sway(5, 10), TideSeats.UNKNOWN);
        due.is("6: UNKNOWN -1", x.sway(-1, 1), TideSeats.UNKNOWN);
        due.is("6: view stays", x.ofMember(4, 2), 0);
        due.is("7: seat", x.seat(1, 3), 2);
        due.is("7: pool", x.ofMember(1, 1), 3);
        due.is("7: sitters", x.ofPool(3, 2), Due.set(1, 3));
        due.is("7: UNKNOWN member 5", x.seat(5, 0), TideSeats.UNKNOWN);
        due.is("7: UNKNOWN member -1", x.seat(-1, 0), TideSeats.UNKNOWN);
        due.is("7: UNKNOWN pool 4", x.seat(1, 4), TideSeats.UNKNOWN);
        due.is("7: UNKNOWN pool -1", x.seat(1, -1), TideSeats.UNKNOWN);
        due.is("7: pool stays", x.ofMember(1, 1), 3);
        due.is("8: flow to 3", x.flow(3), 2);
        due.is("8: flow to 1", x.flow(1), 3);
        due.is("8: OUTSIDE 0", x.flow(0), TideSeats.OUTSIDE);
        due.is("8: OUTSIDE 4", x.flow(4), TideSeats.OUTSIDE);
        due.is("8: stream", x.many(2), 1);
        due.is("9: calm to 9", x.calm(9), 1);
        due.is("9: calm to 0", x.calm(0), 9);
        due.is("9: OUTSIDE -1", x.calm(-1), TideSeats.OUTSIDE);
        due.is("9: OUTSIDE 10", x.calm(10), TideSeats.OUTSIDE);
        due.is("9: mild", x.many(3), 0);
        due.is("10: leap to 9", x.leap(9), 2);
        due.is("10: leap to 0", x.leap(0), 9);
        due.is("10: OUTSIDE -1", x.leap(-1), TideSeats.OUTSIDE);
        due.is("10: OUTSIDE 10", x.leap(10), TideSeats.OUTSIDE);
        due.is("10: leap", x.many(4), 0);
    }

    private static void changesWithoutShore() {
        TideSeats x = new TideSeats();
        due.is("5: UNKNOWN without a shore", x.raise(0, 0), TideSeats.UNKNOWN);
        due.is("6: UNKNOWN without a shore", x.sway(0, 10), TideSeats.UNKNOWN);
        due.is("7: UNKNOWN without a shore", x.seat(0, 0), TideSeats.UNKNOWN);
        due.is("8: STATE", x.flow(1), TideSeats.STATE);
        due.is("8: OUTSIDE ahead of STATE", x.flow(0), TideSeats.OUTSIDE);
        due.is("9: STATE", x.calm(0), TideSeats.STATE);
        due.is("9: OUTSIDE ahead of STATE", x.calm(10), TideSeats.OUTSIDE);
        due.is("10: STATE", x.leap(0), TideSeats.STATE);
        due.is("10: OUTSIDE ahead of STATE", x.leap(10), TideSeats.OUTSIDE);
    }
}
