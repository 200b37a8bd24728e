/** Promises 1 to 11. */
final class HeadsAndHandsTest {
    private static final Due due = new Due("heads and hands");

    public static void main(String[] args) {
        newObject();
        head();
        place();
        read();
        readRefusals();
        mean();
        type();
        wipe();
        faultOfShortTexts();
        faultOfNumbers();
        faultOfPieces();
        tenths();
        tenthsByLaterPieces();
        drawn();
        drawnRefusals();
        settings();
        due.end();
    }

    // promise 1
    private static void newObject() {
        UnlikeDrawn x = new UnlikeDrawn();
        for (int what = 0; what <= 8; what++) {
            due.is("count(" + what + ") of a new one", x.count(what), 0);
        }
        for (int s = 0; s < 4; s++) {
            due.is("lose(" + s + ") of a new one", x.lose(s), Due.NULL);
        }
        for (int hand = 0; hand < 4; hand++) {
            due.is("fault(" + hand + ") of a new one", x.fault(hand), UnlikeDrawn.NONE);
        }
        due.is("mean(1, 0) of a new one", x.mean(1, 0), UnlikeDrawn.BAD);
        due.is("line(0, 0) of a new one", x.line(0, 0), Due.ANY_BAD);
        due.is("leans(0, 0) of a new one", x.leans(0, 0), Due.ANY_BAD);
        due.is("first RUIN", x.set(0, 60), 60);
        due.is("first LAG", x.set(1, 10), 10);
        due.is("first ODD", x.set(2, 20), 20);
    }

    // promise 2
    private static void head() {
        UnlikeDrawn x = new UnlikeDrawn();
        for (int i = 0; i < 8; i++) {
            due.is("head() " + i, x.head(), i);
        }
        due.is("head() of the ninth", x.head(), UnlikeDrawn.FULL);
        due.is("count(0) after FULL", x.count(0), 8);
        for (int part = 0; part < 8; part++) {
            due.is("first PLACE", x.mean(128, part), 50);
        }
    }

    // promise 3
    private static void place() {
        UnlikeDrawn x = Due.withHeads(Due.row(), Due.row());
        due.is("place(1, 7, 99)", x.place(1, 7, 99), 50);
        due.is("place(1, 7, 0)", x.place(1, 7, 0), 99);
        due.is("place(1, 7, 3)", x.place(1, 7, 3), 0);
        due.is("place of another HEAD", x.place(0, 7, 50), 50);
        due.is("place(1, 7, -1)", x.place(1, 7, -1), UnlikeDrawn.BAD);
        due.is("place(1, 7, 100)", x.place(1, 7, 100), UnlikeDrawn.BAD);
        due.is("place(1, -1, 5)", x.place(1, -1, 5), UnlikeDrawn.BAD);
        due.is("place(1, 8, 5)", x.place(1, 8, 5), UnlikeDrawn.BAD);
        due.is("place(-1, 7, 5)", x.place(-1, 7, 5), UnlikeDrawn.BAD);
        due.is("place(2, 7, 5)", x.place(2, 7, 5), UnlikeDrawn.BAD);
        due.is("PLACE after refusals", x.place(1, 7, 3), 3);
    }

    // promise 4
    private static void read() {
        UnlikeDrawn x = Due.withHeads(Due.row(), Due.row());
        x.sheet(2, 1, 10);
        for (int i = 0; i < 10; i++) {
            x.lay(2, 1, i, 11 * i);
        }
        due.is("read of ten items", x.read(2, 1), 8);
        due.is("PART 7 by the SHEET", x.mean(2, 7), 77);
        x.lay(2, 1, 2, -1);
        x.lay(2, 1, 1, 99);
        x.lay(2, 1, 3, 44);
        due.is("read up to an item below 0", x.read(2, 1), 2);
        due.is("PART 1 by the SHEET", x.mean(2, 1), 99);
        due.is("PART 2 as it was", x.mean(2, 2), 22);
        due.is("PART 3 as it was", x.mean(2, 3), 33);
        due.is("the other HEAD", x.mean(1, 1), 50);
        x.sheet(2, 2, 1);
        x.lay(2, 2, 0, 100);
        due.is("read of 100", x.read(2, 1), 0);
        x.sheet(2, 0, 0);
        due.is("read of no items", x.read(2, 1), 0);
        x.sheet(2, 0, 3);
        due.is("read of three items", x.read(2, 1), 3);
        due.is("PART 0 by the SHEET", x.mean(2, 0), 0);
    }

    private static void readRefusals() {
        UnlikeDrawn x = Due.withHeads(Due.row());
        due.is("read(0, 1)", x.read(0, 1), UnlikeDrawn.BAD);
        due.is("read(0, -1)", x.read(0, -1), UnlikeDrawn.BAD);
        due.is("read(-1, 0)", x.read(-1, 0), UnlikeDrawn.BAD);
        due.is("read(4, 0)", x.read(4, 0), UnlikeDrawn.BAD);
        due.is("count(8) after BAD", x.count(8), 0);
        due.is("read(0, 0) of a LOST one", x.read(0, 0), Due.NULL);
        due.is("count(8) after NULL", x.count(8), 1);
        due.is("PLACE after NULL", x.mean(1, 0), 50);
    }

    // promise 5
    private static void mean() {
        UnlikeDrawn x = Due.withHeads(Due.row(10, 99), Due.row(11, 99), Due.row(13, 98));
        due.is("mean(1, 0)", x.mean(1, 0), 10);
        due.is("mean(3, 0)", x.mean(3, 0), 10);
        due.is("mean(7, 0)", x.mean(7, 0), 11);
        due.is("mean(6, 0)", x.mean(6, 0), 12);
        due.is("mean(7, 1)", x.mean(7, 1), 98);
        due.is("mean(4, 7)", x.mean(4, 7), 50);
        due.is("mean(0, 0)", x.mean(0, 0), UnlikeDrawn.BAD);
        due.is("mean(8, 0)", x.mean(8, 0), UnlikeDrawn.BAD);
        due.is("mean(9, 0)", x.mean(9, 0), UnlikeDrawn.BAD);
        due.is("mean(-1, 0)", x.mean(-1, 0), UnlikeDrawn.BAD);
        due.is("mean(1, -1)", x.mean(1, -1), UnlikeDrawn.BAD);
        due.is("mean(1, 8)", x.mean(1, 8), UnlikeDrawn.BAD);
    }

    // promise 6
    private static void type() {
        UnlikeDrawn x = new UnlikeDrawn();
        due.is("type(3, 0)", x.type(3, 0), 1);
        due.is("type(3, 255)", x.type(3, 255), 2);
        due.is("type(3, -1)", x.type(3, -1), UnlikeDrawn.BAD);
        due.is("type(3, 256)", x.type(3, 256), UnlikeDrawn.BAD);
        due.is("type(-1, 0)", x.type(-1, 0), UnlikeDrawn.BAD);
        due.is("type(4, 0)", x.type(4, 0), UnlikeDrawn.BAD);
        for (int i = 3; i <= 40; i++) {
            due.is("type(3, 48) for the byte " + i, x.type(3, 48), i);
        }
        due.is("type behind 40 bytes", x.type(3, 48), UnlikeDrawn.FULL);
        due.is("BAD ahead of FULL", x.type(3, 256), UnlikeDrawn.BAD);
        due.is("count(6)", x.count(6), 40);
        due.is("count(3)", x.count(3), 0);
    }

    // promise 7
    private static void wipe() {
        UnlikeDrawn x = new UnlikeDrawn();
        Due.write(x, 1, "*x;9");
        due.is("wipe(1)", x.wipe(1), 4);
        due.is("wipe(1) again", x.wipe(1), 0);
        due.is("fault(1) of a wiped one", x.fault(1), UnlikeDrawn.NONE);
        due.is("count(4) of a wiped one", x.count(4), 0);
        Due.write(x, 1, "*x");
        x.wipe(1);
        due.is("tenths(1, 0) of a wiped one", x.tenths(1, 0), 10);
        due.is("wipe(-1)", x.wipe(-1), UnlikeDrawn.BAD);
        due.is("wipe(4)", x.wipe(4), UnlikeDrawn.BAD);
    }

    // promise 8
    private static void faultIs(String text, int want) {
        UnlikeDrawn x = new UnlikeDrawn();
        Due.write(x, 2, text);
        due.is("fault of '" + text + "'", x.fault(2), want);
    }

    private static void faultOfShortTexts() {
        faultIs("", UnlikeDrawn.NONE);
        faultIs("0", 1);
        faultIs("8", 0);
        faultIs("/", 0);
        faultIs(";", 0);
        faultIs("x", 0);
        faultIs("+1", 0);
        faultIs("0x", UnlikeDrawn.NONE);
        faultIs("7x", UnlikeDrawn.NONE);
        faultIs("*x", UnlikeDrawn.NONE);
        faultIs("*X", 1);
        faultIs("0;", 1);
        faultIs("00", 1);
        faultIs("0 +1", 1);
        UnlikeDrawn x = new UnlikeDrawn();
        due.is("fault(-1)", x.fault(-1), UnlikeDrawn.BAD);
        due.is("fault(4)", x.fault(4), UnlikeDrawn.BAD);
    }

    private static void faultOfNumbers() {
        faultIs("3+", 2);
        faultIs("3+;", 2);
        faultIs("3+x", 2);
        faultIs("3++1", 2);
        faultIs("3-/", 2);
        faultIs("3-:", 2);
        faultIs("3+9", UnlikeDrawn.NONE);
        faultIs("3+60", UnlikeDrawn.NONE);
        faultIs("3-60", UnlikeDrawn.NONE);
        faultIs("3+00", UnlikeDrawn.NONE);
        faultIs("3+61", 2);
        faultIs("3-99", 2);
        faultIs("3+61;8", 2);
        faultIs("3+61x", 2);
        faultIs("3+100", 4);
        faultIs("3+005", 4);
        faultIs("3+1x", 3);
    }

    private static void faultOfPieces() {
        faultIs("3x;", 3);
        faultIs("3x;;", 3);
        faultIs("3x3", 2);
        faultIs("3+1;4-2;*x", UnlikeDrawn.NONE);
        faultIs("3+1;4-2;*", 9);
        faultIs("3+1;4-75;*", 6);
        faultIs("3+1;8x;4-75", 4);
        faultIs("0x;1x;2x;3x;4x;5x;6x;7x;0x;1x;2x;3x;*+10", UnlikeDrawn.NONE);
        faultIs("0x;1x;2x;3x;4x;5x;6x;7x;0x;1x;2x;3x;4x;", 39);
        faultIs("00x;1x;2x;3x;4x;5x;6x;7x;0x;1x;2x;3x;4x;", 1);
        faultIs("0+1;1x;2x;3x;4x;5x;6x;7x;0x;1x;2x;3x;4x;", 40);
    }

    // promise 9
    private static void tenths() {
        UnlikeDrawn x = new UnlikeDrawn();
        Due.write(x, 0, "0+0;1-0;2+60;3-60;4x;5+7;6-07");
        int[] want = {0, 0, 60, -60, Due.ANY_NONE, 7, -7, 10};
        for (int part = 0; part < 8; part++) {
            due.is("tenths(0, " + part + ")", x.tenths(0, part), want[part]);
            due.is("tenths(1, " + part + ")", x.tenths(1, part), 10);
        }
        due.is("tenths(0, -1)", x.tenths(0, -1), Due.ANY_BAD);
        due.is("tenths(0, 8)", x.tenths(0, 8), Due.ANY_BAD);
        due.is("tenths(-1, 0)", x.tenths(-1, 0), Due.ANY_BAD);
        due.is("tenths(4, 0)", x.tenths(4, 0), Due.ANY_BAD);
        x.type(0, ';');
        for (int part = 0; part < 8; part++) {
            due.is("tenths(0, " + part + ") with a FAULT", x.tenths(0, part), 10);
        }
    }

    private static void tenthsByLaterPieces() {
        UnlikeDrawn x = new UnlikeDrawn();
        Due.write(x, 0, "3x;*+5;2-9;2+8;4x");
        int[] want = {5, 5, 8, 5, Due.ANY_NONE, 5, 5, 5};
        for (int part = 0; part < 8; part++) {
            due.is("later pieces, PART " + part, x.tenths(0, part), want[part]);
        }
        Due.write(x, 0, "*x;6+3");
        due.is("all but one are left out", x.tenths(0, 6), 3);
        due.is("left out by *", x.tenths(0, 7), Due.ANY_NONE);
    }

    // promise 10
    private static void drawn() {
        UnlikeDrawn x = Due.withHeads(Due.row(63, 37, 0), Due.row(50, 50, 99));
        Due.write(x, 0, "0+15;1-15;2x");
        Due.write(x, 1, "*-60");
        due.is("true", x.drawn(2, 0, 3, 0), 63);
        due.is("exceeded: 56 and 7 times 15 by 10", x.drawn(0, 0, 3, 0), 66);
        due.is("below the MEAN: 43 and -6 times -15 by 10", x.drawn(0, 0, 3, 1), 52);
        due.is("left out", x.drawn(0, 0, 3, 2), Due.ANY_NONE);
        due.is("49 and -49 times -60 by 10", x.drawn(1, 0, 3, 2), 343);
        due.is("49 and 50 times -60 by 10", x.drawn(1, 1, 3, 2), -251);
        Due.write(x, 1, "*+1");
        due.is("56 and 7 by 10, cut", x.drawn(1, 0, 3, 0), 56);
        due.is("49 and -49 by 10, cut towards 0", x.drawn(1, 0, 3, 2), 45);
        due.is("over the own MEAN", x.drawn(1, 0, 1, 2), 0);
    }

    private static void drawnRefusals() {
        UnlikeDrawn x = Due.withHeads(Due.row(), Due.row());
        due.is("drawn(4, 0, 1, 0)", x.drawn(4, 0, 1, 0), Due.ANY_BAD);
        due.is("drawn(-1, 0, 1, 0)", x.drawn(-1, 0, 1, 0), Due.ANY_BAD);
        due.is("drawn(0, 2, 1, 0)", x.drawn(0, 2, 1, 0), Due.ANY_BAD);
        due.is("drawn(0, -1, 1, 0)", x.drawn(0, -1, 1, 0), Due.ANY_BAD);
        due.is("drawn(0, 0, 0, 0)", x.drawn(0, 0, 0, 0), Due.ANY_BAD);
        due.is("drawn(0, 0, 4, 0)", x.drawn(0, 0, 4, 0), Due.ANY_BAD);
        due.is("drawn(0, 0, 1, 8)", x.drawn(0, 0, 1, 8), Due.ANY_BAD);
        due.is("drawn(0, 0, 1, -1)", x.drawn(0, 0, 1, -1), Due.ANY_BAD);
        due.is("count(8)", x.count(8), 0);
    }

    // promise 11
    private static void settings() {
        UnlikeDrawn x = new UnlikeDrawn();
        int[] least = {1, 1, 0};
        int[] most = {99, 60, 99};
        int[] first = {60, 10, 20};
        for (int what = 0; what < 3; what++) {
            due.is("set to the least", x.set(what, least[what]), first[what]);
            due.is("set to the most", x.set(what, most[what]), least[what]);
            due.is("set below the least", x.set(what, least[what] - 1), UnlikeDrawn.BAD);
            due.is("set above the most", x.set(what, most[what] + 1), UnlikeDrawn.BAD);
            due.is("set after refusals", x.set(what, first[what]), most[what]);
        }
        due.is("set(3, 5)", x.set(3, 5), UnlikeDrawn.BAD);
        due.is("set(-1, 5)", x.set(-1, 5), UnlikeDrawn.BAD);
    }
}
