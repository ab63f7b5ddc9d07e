/** Counts answers that are as due, prints those that are not, and lays texts on sheets. */
final class Due {
    private int right;
    private int wrong;

    void is(String call, long got, long want) {
        if (got == want) {
            right++;
        } else {
            wrong++;
            System.out.println(call + " answered " + got + ", due is " + want);
        }
    }

    /** Ends the program: with exit code 1 if an answer was not the one that is due. */
    void end() {
        System.out.println(right + " answers as due, " + wrong + " not");
        if (wrong != 0 || right == 0) {
            System.exit(1);
        }
    }

    /** What shore answers to a text that is laid on sheet 3 as bytes. */
    static int shore(TideSeats x, String text) {
        lay(x, 3, 0, codes(text));
        return x.shore(3, 0, 0, text.length());
    }

    static TideSeats on(String text) {
        TideSeats x = new TideSeats();
        if (shore(x, text) < 0) {
            throw new IllegalStateException(text + " is no text");
        }
        return x;
    }

    static void lay(TideSeats x, int sheet, int lane, int... cells) {
        x.sheet(sheet, lane, cells.length);
        for (int i = 0; i < cells.length; i++) {
            x.put(sheet, i, cells[i]);
        }
    }

    static int[] codes(String text) {
        int[] codes = new int[text.length()];
        for (int i = 0; i < codes.length; i++) {
            codes[i] = text.charAt(i);
        }
        return codes;
    }

    static int set(int... numbers) {
        int set = 0;
        for (int number : numbers) {
            set |= 1 << number;
        }
        return set;
    }
}
