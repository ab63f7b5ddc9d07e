/** Promises 23 to 28: readings, what they leave open, odds. */
public final class ReadingTest {
    /** Pools of heights 3, 5, 1, 7. */
    private static final String TEXT = "r212,32,51,14,73;s05;c27;l01;s33;c19";
    private static final Due due = new Due();

    public static void main(String[] args) {
        numbers();
        refusals();
        heights();
        kinds();
        streams();
        edgesOfWhatIsLeft();
        readingsThatAreFull();
        byHowAllIs();
        odds();
        due.end();
    }

    private static void numbers() {
        TideSeats x = Due.on(TEXT);
        for (int k = 0; k < 8; k++) {
            due.is("23: number " + k, x.reading(0, 9, 0), k);
        }
        due.is("23: FULL", x.reading(0, 9, 0), TideSeats.FULL);
        due.is("23: UNKNOWN ahead of FULL", x.reading(0, 9, 4), TideSeats.UNKNOWN);
        due.is("24: none", x.back(0), 8);
        due.is("24: OUTSIDE 9", x.back(9), TideSeats.OUTSIDE);
        due.is("24: OUTSIDE -1", x.back(-1), TideSeats.OUTSIDE);
        due.is("24: three", x.back(3), 5);
        due.is("23: numbered by how many are ahead", x.reading(0, 9, 0), 5);
        due.is("24: all", x.back(6), 0);
        due.is("24: OUTSIDE 1 of none", x.back(1), TideSeats.OUTSIDE);
        due.is("23: the first again", x.reading(4, 0, 3), 0);
        due.is("39: readings", x.many(5), 1);
        due.is("24: none without a shore", new TideSeats().back(0), 0);
    }

    private static void refusals() {
        TideSeats x = Due.on(TEXT);
        TideSeats none = new TideSeats();
        due.is("23: UNKNOWN member 5", x.reading(5, 10, 9), TideSeats.UNKNOWN);
        due.is("23: UNKNOWN member -1", x.reading(-1, 10, 9), TideSeats.UNKNOWN);
        due.is("23: OUTSIDE 10 ahead of the pool", x.reading(0, 10, 9), TideSeats.OUTSIDE);
        due.is("23: OUTSIDE -1", x.reading(0, -1, 0), TideSeats.OUTSIDE);
        due.is("23: UNKNOWN pool 4", x.reading(0, 0, 4), TideSeats.UNKNOWN);
        due.is("23: UNKNOWN pool -1", x.reading(0, 0, -1), TideSeats.UNKNOWN);
        due.is("23: none is taken", x.many(5), 0);
        due.is("23: UNKNOWN without a shore", none.reading(0, 0, 0), TideSeats.UNKNOWN);
        due.is("25: UNKNOWN 4", x.heights(4), TideSeats.UNKNOWN);
        due.is("25: UNKNOWN -1", x.heights(-1), TideSeats.UNKNOWN);
        due.is("25: UNKNOWN without a shore", none.heights(0), TideSeats.UNKNOWN);
        due.is("26: UNKNOWN 5", x.kinds(5), TideSeats.UNKNOWN);
        due.is("26: UNKNOWN -1", x.kinds(-1), TideSeats.UNKNOWN);
        due.is("26: UNKNOWN without a shore", none.kinds(0), TideSeats.UNKNOWN);
        due.is("27: STATE", none.streams(), TideSeats.STATE);
        due.is("28: LOST member 5", x.odds(5, 0, 0), TideSeats.LOST);
        due.is("28: LOST member -1", x.odds(-1, 0, 0), TideSeats.LOST);
        due.is("28: LOST pool 4", x.odds(0, 4, 0), TideSeats.LOST);
        due.is("28: LOST pool -1", x.odds(0, -1, 1), TideSeats.LOST);
        due.is("28: LOST which 2", x.odds(0, 0, 2), TideSeats.LOST);
        due.is("28: LOST which -1", x.odds(0, 0, -1), TideSeats.LOST);
        due.is("28: LOST without a shore", none.odds(0, 0, 0), TideSeats.LOST);
    }

    private static void heights() {
        TideSeats x = Due.on("r100,41,51,61;s00;s10");
        due.is("25: no readings", x.heights(0), 1022);
        x.reading(0, 6, 1);
        due.is("25: pool 0 was washed", x.heights(0), Due.set(1, 2, 3, 4, 5));
        due.is("25: pool 1 was washed", x.heights(1), Due.set(1, 2, 3, 4, 5));
        due.is("25: pool 2 is left open", x.heights(2), 1022);
        x.reading(1, 6, 0);
        due.is("25: pool 2 was not washed", x.heights(2), Due.set(6, 7, 8, 9));
        x.reading(0, 4, 0);
        due.is("25: pool 0 alone is washed, or none", x.heights(0), Due.set(1, 2, 3, 4, 5));
        x.reading(1, 6, 1);
        due.is("25: readings that cannot all be so", x.heights(0), 0);
        due.is("25: nothing is changed", x.ofPool(0, 0), 4);
        x = Due.on("r100,11,11,11,11,11,11;s00;s00;s00;s00;s00;s50");
        x.reading(5, 2, 0);
        due.is("25: the last pool and member", x.heights(5), Due.set(1));
        due.is("26: the last pool and member", x.kinds(5), Due.set(0));
    }

    private static void kinds() {
        TideSeats x = Due.on("r300,11,11,11,11;c00;s10");
        due.is("26: no readings", x.kinds(0), 7);
        x.reading(0, 9, 3);
        due.is("26: a shrimp", x.kinds(0), 1);
        due.is("26: a reading of another one that is not so", x.kinds(1), 0);
        x.back(1);
        x.reading(0, 9, 2);
        due.is("26: a crab", x.kinds(0), 2);
        due.is("26: a reading of another one that is so", x.kinds(1), 7);
        x.back(1);
        x.reading(0, 9, 1);
        due.is("26: a limpet", x.kinds(0), 4);
        x.flow(2);
        due.is("26: a crab or a limpet", x.kinds(0), 6);
        x.flow(1);
        due.is("26: a shrimp in a slow stream", x.kinds(0), 1);
        due.is("26: nothing is changed", x.ofMember(0, 0), 1);
    }

    private static void streams() {
        TideSeats x = Due.on("r100,11,11,11,11;s00;l10");
        due.is("27: no readings", x.streams(), 14);
        x.reading(1, 9, 2);
        due.is("27: a limpet by 1", x.streams(), Due.set(2, 3));
        x.reading(0, 9, 3);
        due.is("27: a shrimp by 3", x.streams(), Due.set(3));
        x.reading(0, 9, 0);
        due.is("27: none", x.streams(), 0);
        due.is("27: nothing is changed", x.many(2), 1);
        x.back(3);
        x.reading(0, 1, 0);
        due.is("27: a tide that washes nothing", x.streams(), 14);
    }

    private static void edgesOfWhatIsLeft() {
        TideSeats x = Due.on("r100,41,41;s00");
        x.reading(0, 9, 0);
        due.is("25: it stayed by the highest tide", x.heights(0), Due.set(9));
        due.is("25: the other one was not washed, then", x.heights(1), Due.set(9));
        x.back(1);
        x.reading(0, 5, 1);
        x.raise(1, 1);
        due.is("25: 1 to 4", x.heights(0), Due.set(1, 2, 3, 4));
        x.back(1);
        x.reading(0, 2, 1);
        due.is("25: the lowest alone", x.heights(0), Due.set(1));
        x.back(1);
        x.reading(0, 1, 1);
        due.is("25: nobody is carried by a tide of height 1", x.heights(0), 0);
        due.is("26: nor as another kind", x.kinds(0), 0);
        due.is("27: nor by another stream", x.streams(), 0);
        x.back(1);
        x.reading(0, 0, 0);
        due.is("25: all stay by a tide of height 0", x.heights(0), 1022);
        due.is("26: as each kind", x.kinds(0), 7);
        due.is("27: by each stream", x.streams(), 14);
        x = Due.on("r211,11,11,11,11;s00;c00;l00");
        x.reading(0, 9, 1);
        due.is("27: the weakest stream alone", x.streams(), Due.set(1));
        x.back(1);
        x.reading(1, 9, 2);
        due.is("27: the strongest stream alone", x.streams(), Due.set(3));
        x.back(1);
        x.reading(2, 9, 0);
        due.is("27: a limpet that stayed", x.streams(), Due.set(1));
    }

    private static void readingsThatAreFull() {
        TideSeats x = Due.on("r100,11,11,11;s00;c10");
        for (int k = 0; k < 7; k++) {
            x.reading(0, 0, 0);
        }
        due.is("23: the eighth", x.reading(0, 9, 1), 7);
        due.is("23: a ninth", x.reading(0, 9, 2), TideSeats.FULL);
        due.is("23: FULL takes none", x.many(5), 8);
        due.is("26: the eighth counts, the ninth does not", x.kinds(0), 1);
        due.is("24: the eighth is taken back", x.back(1), 7);
        due.is("26: without the eighth", x.kinds(0), 7);
        due.is("23: the eighth, again", x.reading(0, 9, 2), 7);
        due.is("26: the new eighth counts", x.kinds(0), 0);
        due.is("24: eight at most", x.back(9), TideSeats.OUTSIDE);
        due.is("24: all eight", x.back(8), 0);
        due.is("24: none of none", x.back(0), 0);
        due.is("26: no readings", x.kinds(0), 7);
        due.is("25: no readings", x.heights(2), 1022);
        due.is("27: no readings", x.streams(), 14);
    }

    private static void byHowAllIs() {
        TideSeats x = Due.on("r100,11,11,11,11;s00");
        x.reading(0, 9, 1);
        due.is("23: from pool 0", x.kinds(0), 1);
        x.seat(0, 1);
        due.is("23: from pool 1, as it is when it is asked", x.kinds(0), 6);
        x.flow(2);
        due.is("23: nobody comes back to pool 1", x.kinds(0), 0);
        x.tide(9);
        due.is("23: from pool 3 by two", x.kinds(0), 1);
        x.raise(3, 9);
        due.is("23: a pool that is not washed", x.kinds(0), 0);
    }

    private static void odds() {
        TideSeats x = Due.on(TEXT);
        int[][] upper = {{11, 2, 12, 0}, {9, 4, 6, 6}};
        int[] lower = {25, 25, 25, 1};
        for (int q = 0; q <= 3; q++) {
            due.is("28: upper of 0, " + q, x.odds(0, q, 0), upper[0][q]);
            due.is("28: lower of 0, " + q, x.odds(0, q, 1), lower[q]);
            due.is("28: upper of 1, " + q, x.odds(1, q, 0), upper[1][q]);
            due.is("28: lower of 1, " + q, x.odds(1, q, 1), 25);
        }
        x = Due.on("r100,91,91;s00;c00");
        due.is("28: sure", x.odds(0, 0, 0), 1);
        due.is("28: sure, lower", x.odds(0, 0, 1), 1);
        due.is("28: never", x.odds(0, 1, 0), 0);
        due.is("28: never, lower", x.odds(0, 1, 1), 1);
        x.raise(0, 8);
        x.raise(1, 8);
        due.is("28: 18 of 100", x.odds(0, 1, 0), 9);
        due.is("28: 18 of 100, lower", x.odds(0, 1, 1), 50);
        due.is("28: 82 of 100", x.odds(0, 0, 0), 41);
        due.is("28: a crab in a slow stream", x.odds(1, 0, 0), 1);
        x = Due.on("r100,81,81,81;s00");
        due.is("28: 1 of 100", x.odds(0, 2, 0), 1);
        due.is("28: 1 of 100, lower", x.odds(0, 2, 1), 100);
        due.is("28: 81 of 100", x.odds(0, 0, 0), 81);
    }
}
