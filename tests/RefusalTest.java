/** Promises 2 to 36 and 39: each refusal and each fault alone, and each two that can hold at once (see Wrongs, World). */
public final class RefusalTest {
    private static final int MIN = Integer.MIN_VALUE, MAX = Integer.MAX_VALUE;
    private static final int UNKNOWN = TideSeats.UNKNOWN, OUTSIDE = TideSeats.OUTSIDE;
    private static final int STATE = TideSeats.STATE, FULL = TideSeats.FULL;
    private static final int NULL = 1, CAST = 2, INDEX = 3, SIZE = 4;
    private static final World.Kind NO_SHORE = World.Kind.BARE;
    private static final int[] NO_SHEET = {MIN, -1, 4, MAX}, NO_LANE = {MIN, -1, 3, MAX};
    /** World has four pools and five members: its last member bears the number of no pool. */
    private static final int[] NO_POOL = {MIN, -1, 4, 6, MAX}, NO_MEMBER = {MIN, -1, 5, 6, MAX};
    private static final int[] NO_DIGIT = {MIN, -1, 10, MAX};
    private static final Due due = new Due();

    public static void main(String[] args) {
        texts();
        poolsAndMembers();
        changes();
        tidesAndBills();
        rows();
        waysAndSeats();
        readings();
        sheets();
        cells();
        parts();
        due.end();
    }

    private static void texts() {
        int codes = World.TEXT.length();
        Wrongs.ofNaming(due, 2, "shore", 0, 0, 0, codes)
            .refused(UNKNOWN, 0, NO_SHEET)
            .refused(OUTSIDE, 1, NO_LANE)
            .faulted(CAST, 1, 1, 2)
            .faulted(NULL, 0, 3)
            .faulted(SIZE, 3, MIN, -1)
            .faulted(INDEX, 2, MIN, -1, codes, codes + 1, MAX)
            .faulted(INDEX, 3, codes + 1, 60, MAX)
            .refused(-100 - codes + 1, 3, codes - 1)
            .check(5);
    }

    private static void poolsAndMembers() {
        Wrongs.ofPlain(due, 3, "ofPool", 0, 0).where(NO_SHORE, UNKNOWN).refused(UNKNOWN, 0, NO_POOL)
            .refused(OUTSIDE, 1, MIN, -1, 4, MAX).checkAsking(3);
        Wrongs.ofPlain(due, 4, "ofMember", 4, 2).where(NO_SHORE, UNKNOWN).refused(UNKNOWN, 0, NO_MEMBER)
            .refused(OUTSIDE, 1, MIN, -1, 4, MAX).checkAsking(9);
        Wrongs.ofPlain(due, 5, "raise", 3, 1).where(NO_SHORE, UNKNOWN).refused(UNKNOWN, 0, NO_POOL)
            .refused(OUTSIDE, 1, MIN, -1, 0, 10, MAX).check(7);
        Wrongs.ofPlain(due, 6, "sway", 0, 9).where(NO_SHORE, UNKNOWN).refused(UNKNOWN, 0, NO_MEMBER)
            .refused(OUTSIDE, 1, NO_DIGIT).check(5);
        Wrongs.ofPlain(due, 7, "seat", 4, 3).where(NO_SHORE, UNKNOWN).refused(UNKNOWN, 0, NO_MEMBER)
            .refused(UNKNOWN, 1, NO_POOL).check(1);
    }

    private static void changes() {
        Wrongs.ofPlain(due, 8, "flow", 3).refused(OUTSIDE, 0, MIN, -1, 0, 4, MAX).where(NO_SHORE, STATE).check(2);
        Wrongs.ofPlain(due, 9, "calm", 9).refused(OUTSIDE, 0, NO_DIGIT).where(NO_SHORE, STATE).check(1);
        Wrongs.ofPlain(due, 10, "leap", 0).refused(OUTSIDE, 0, NO_DIGIT).where(NO_SHORE, STATE).check(2);
    }

    private static void tidesAndBills() {
        Wrongs.ofPlain(due, 11, "washed", 9).refused(OUTSIDE, 0, NO_DIGIT).where(NO_SHORE, STATE).checkAsking(15);
        Wrongs.ofPlain(due, 12, "carried", 3, 9).where(NO_SHORE, UNKNOWN).refused(UNKNOWN, 0, NO_MEMBER)
            .refused(OUTSIDE, 1, NO_DIGIT).checkAsking(1);
        Wrongs.ofPlain(due, 13, "tide", 4).refused(OUTSIDE, 0, NO_DIGIT).where(NO_SHORE, STATE).check(2);
        Wrongs.ofPlain(due, 14, "ayes", 0).refused(OUTSIDE, 0, NO_DIGIT).where(NO_SHORE, STATE).checkAsking(4);
        Wrongs.ofPlain(due, 15, "passes", 9).refused(OUTSIDE, 0, NO_DIGIT).where(NO_SHORE, STATE).checkAsking(2);
        Wrongs.ofPlain(due, 16, "law", 9).refused(OUTSIDE, 0, NO_DIGIT).where(NO_SHORE, STATE).checkAsking(0);
        Wrongs.ofPlain(due, 18, "best", 1).refused(OUTSIDE, 0, MIN, -1, 2, MAX).where(NO_SHORE, STATE).checkAsking(2);
        Wrongs.ofPlain(due, 19, "turn", 0).refused(OUTSIDE, 0, NO_DIGIT).where(NO_SHORE, STATE).checkAsking(11);
    }

    /** On sheet 1 the cells 3 and 4 of five are no tides, on sheet 2 the cells 4 and 5 of six are no pools. */
    private static void rows() {
        Wrongs.ofNaming(due, 17, "year", 1, 2, 0, 3, 0)
            .refused(UNKNOWN, 0, NO_SHEET)
            .refused(OUTSIDE, 1, NO_LANE).refused(OUTSIDE, 3, MIN, -1, 21, MAX)
            .refused(OUTSIDE, 4, MIN, -1, 4, 9, 16, 19, 30, MAX)
            .faulted(CAST, 1, 0, 1).faulted(NULL, 0, 3)
            .faulted(INDEX, 2, MIN, -1, 3, 5, 6, MAX).faulted(INDEX, 3, 6, 20)
            .where(NO_SHORE, STATE)
            .refused(OUTSIDE, 3, 4, 5)
            .checkAsking(11);
        Wrongs.ofNaming(due, 20, "drift", 2, 1, 0, 4, 5, 0)
            .refused(UNKNOWN, 0, NO_SHEET)
            .refused(OUTSIDE, 1, NO_LANE).refused(OUTSIDE, 3, MIN, -1, 21, MAX)
            .refused(OUTSIDE, 4, NO_DIGIT).refused(OUTSIDE, 5, MIN, -1, 2, MAX)
            .faulted(CAST, 1, 0, 2).faulted(NULL, 0, 3)
            .faulted(INDEX, 2, MIN, -1, 3, 6, 7, MAX).faulted(INDEX, 3, 7, 20)
            .where(NO_SHORE, STATE)
            .refused(UNKNOWN, 3, 5, 6)
            .checkAsking(4);
    }

    private static void waysAndSeats() {
        Wrongs.ofPlain(due, 21, "leaps", 0, 3, -1).where(NO_SHORE, UNKNOWN).refused(UNKNOWN, 0, NO_POOL)
            .refused(UNKNOWN, 1, NO_POOL).refused(OUTSIDE, 2, MIN, -2, 6, MAX).checkAsking(2);
        Wrongs.ofPlain(due, 22, "elect", 4, 3, -1).where(NO_SHORE, UNKNOWN).refused(UNKNOWN, 0, NO_MEMBER)
            .refused(UNKNOWN, 1, NO_POOL).refused(OUTSIDE, 2, MIN, -2, 5, MAX).checkAsking(2);
    }

    private static void readings() {
        Wrongs.ofPlain(due, 23, "reading", 4, 9, 3).where(NO_SHORE, UNKNOWN).refused(UNKNOWN, 0, NO_MEMBER)
            .refused(OUTSIDE, 1, NO_DIGIT).refused(UNKNOWN, 2, NO_POOL).where(World.Kind.FULL, FULL).check(2);
        Wrongs.ofPlain(due, 24, "back", 2).refused(OUTSIDE, 0, MIN, -1, 3, MAX).where(NO_SHORE, OUTSIDE).check(0);
        Wrongs.ofPlain(due, 25, "heights", 0).where(NO_SHORE, UNKNOWN).refused(UNKNOWN, 0, NO_POOL).checkAsking(62);
        Wrongs.ofPlain(due, 26, "kinds", 4).where(NO_SHORE, UNKNOWN).refused(UNKNOWN, 0, NO_MEMBER).checkAsking(7);
        Wrongs.ofPlain(due, 27, "streams").where(NO_SHORE, STATE).checkAsking(4);
        Wrongs.ofPlain(due, 28, "odds", 4, 1, 1).where(NO_SHORE, TideSeats.LOST).lost(0, 0, NO_MEMBER)
            .lost(0, 1, NO_POOL).lost(0, 2, MIN, -1, 2, MAX).checkAsking(25);
    }

    private static void sheets() {
        Wrongs.ofNaming(due, 29, "sheet", 3, 2, 60).refused(UNKNOWN, 0, NO_SHEET).refused(OUTSIDE, 1, NO_LANE)
            .refused(OUTSIDE, 2, 61, MAX).faulted(SIZE, 2, -1, MIN).check(1);
        Wrongs.ofPlain(due, 30, "lose", 2).refused(UNKNOWN, 0, NO_SHEET).check(1);
    }

    private static void cells() {
        Wrongs.ofNaming(due, 31, "put", 1, 4, 8).refused(UNKNOWN, 0, NO_SHEET).faulted(NULL, 0, 3)
            .faulted(INDEX, 1, MIN, -1, 5, 6, MAX).check(1);
        Wrongs.ofNaming(due, 32, "cell", 1, 3, 2).lost(0, 0, NO_SHEET).lost(0, 2, NO_LANE)
            .lost(CAST, 2, 0, 1).lost(NULL, 0, 3).lost(INDEX, 1, MIN, -1, 5, 6, MAX).checkAsking(10);
        Wrongs.ofNaming(due, 33, "copy", 1, 2, 1, 1, 2).refused(UNKNOWN, 0, NO_SHEET).refused(UNKNOWN, 2, NO_SHEET)
            .faulted(NULL, 0, 3).faulted(NULL, 2, 3)
            .faulted(CAST, 0, 0).faulted(CAST, 2, 2)
            .faulted(INDEX, 1, MIN, -1, 4, 5, 6, MAX).faulted(INDEX, 3, MIN, -1, 4, 5, 6, MAX)
            .faulted(INDEX, 4, MIN, -1, 4, 6, MAX).check(2);
    }

    private static void parts() {
        Wrongs.ofPlain(due, 34, "tell", 4).where(NO_SHORE, UNKNOWN).refused(UNKNOWN, 0, NO_MEMBER).check(109);
        Wrongs.ofPlain(due, 35, "name", 4).where(NO_SHORE, UNKNOWN).refused(UNKNOWN, 0, NO_MEMBER).check(4);
        Wrongs.ofNaming(due, 36, "as", 1, 1).where(NO_SHORE, UNKNOWN).refused(UNKNOWN, 0, NO_MEMBER)
            .refused(OUTSIDE, 1, MIN, -1, 3, MAX).faulted(CAST, 1, 2).checkAsking(1);
        Wrongs.ofPlain(due, 39, "many", 5).refused(OUTSIDE, 0, MIN, -1, 6, MAX).checkAsking(2);
    }
}
