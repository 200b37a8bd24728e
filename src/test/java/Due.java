/** Counts the answers that are not as due, and has what several tests use. */
final class Due {
    static final long LONG_BAD = Long.MIN_VALUE + 2;
    static final long LONG_NOT = Long.MIN_VALUE + 3;
    static final int NULL = -11;
    static final int INDEX = -12;
    static final int CAST = -13;
    static final int STORE = -14;
    static final int SIZE = -15;
    static final int ANY_NONE = -9999;
    static final int ANY_BAD = -10002;

    private static final int MOST_TOLD = 40;

    private final String test;
    private int asked;
    private int wrong;

    Due(String test) {
        this.test = test;
    }

    void is(String call, long got, long want) {
        asked++;
        if (got != want) {
            wrong++;
            if (wrong <= MOST_TOLD) {
                System.out.println(test + ": " + call + " answered " + got + ", due is " + want);
            }
        }
    }

    void same(String where, String got, String want) {
        asked++;
        if (!got.equals(want)) {
            wrong++;
            if (wrong <= MOST_TOLD) {
                System.out.println(test + ": " + where + " " + got + ", due is: " + want);
            }
        }
    }

    /** Tells how it went and ends the program; with 1 if an answer was not as due. */
    void end() {
        System.out.println(test + ": " + asked + " answers, " + wrong + " not as due");
        System.exit(wrong == 0 ? 0 : 1);
    }

    int wrong() {
        return wrong;
    }

    /** A new object with HEADS, each with the PLACES told; the PARTS behind these stay at 50. */
    static UnlikeDrawn withHeads(int[]... heads) {
        UnlikeDrawn x = new UnlikeDrawn();
        for (int[] places : heads) {
            int head = x.head();
            for (int part = 0; part < places.length; part++) {
                x.place(head, part, places[part]);
            }
        }
        return x;
    }

    /** The HAND's text becomes this one. */
    static void write(UnlikeDrawn x, int hand, String text) {
        x.wipe(hand);
        for (int i = 0; i < text.length(); i++) {
            x.type(hand, text.charAt(i));
        }
    }

    static int[] row(int... places) {
        return places;
    }
}
