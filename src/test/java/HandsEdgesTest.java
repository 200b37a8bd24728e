/** Promises 6 to 11: a test for each boundary case of HANDS, what they draw, and SETTINGS. */
final class HandsEdgesTest {
    private static final Due due = new Due("edges of hands");
    private static final int NONE = UnlikeDrawn.NONE;
    /** Thirty-nine bytes, without a FAULT. */
    private static final String LONG = "*+10;*+10;*+10;*+10;*+10;*+10;*+10;*+10";

    public static void main(String[] args) {
        typeOfEachByte();
        wipeOfNoneOneAndForty();
        wipeOfOneHandAlone();
        faultOfAnEmptyText();
        eachFirstByte();
        eachSecondByte();
        eachThirdByte();
        eachByteBehindX();
        eachByteBehindOneFigure();
        eachByteBehindASix();
        eachByteBehindTwoFigures();
        eachByteBehindASemicolon();
        eachNumberOfOneFigure();
        eachNumberOfTwoFigures();
        numbersOfThreeFigures();
        faultIsTheFirstOne();
        textsOfForty();
        faultGoesAsTheTextGoesOn();
        withAFaultAsIfEmpty();
        theLaterPieceIsSo();
        zeroWithASign();
        drawnByTheLeastAndTheMost();
        drawnIsCutTowardsZero();
        drawnByZeroIsTheMean();
        drawnWithAFault();
        settingsAtTheirEdges();
        settingsAreThree();
        ruinAtItsEdges();
        lagAtItsEdges();
        oddAtItsEdges();
        due.end();
    }

    private static UnlikeDrawn withText(String text) {
        UnlikeDrawn x = new UnlikeDrawn();
        Due.write(x, 1, text);
        return x;
    }

    private static void faultIs(String text, int want) {
        due.is("fault of '" + text + "'", withText(text).fault(1), want);
    }

    private static boolean isFigure(int b) {
        return b >= '0' && b <= '9';
    }

    // promise 6; NumberEdgesTest has -1 and 256, FullTest has the byte behind the fortieth
    private static void typeOfEachByte() {
        for (int b = 0; b <= 255; b++) {
            UnlikeDrawn x = new UnlikeDrawn();
            due.is("type(0, " + b + ")", x.type(0, b), 1);
            due.is("type(0, " + b + ") again", x.type(0, b), 2);
            due.is("count(3)", x.count(3), 2);
            due.is("count(4)", x.count(4), 0);
        }
    }

    // promise 7
    private static void wipeOfNoneOneAndForty() {
        UnlikeDrawn x = withText("");
        due.is("wipe of none", x.wipe(1), 0);
        x.type(1, 200);
        due.is("wipe of one", x.wipe(1), 1);
        Due.write(x, 1, LONG + "0");
        due.is("wipe of forty", x.wipe(1), 40);
        due.is("wipe of none again", x.wipe(1), 0);
        due.is("fault behind it", x.fault(1), NONE);
        due.is("type behind it", x.type(1, '0'), 1);
    }

    private static void wipeOfOneHandAlone() {
        for (int own = 0; own < 4; own++) {
            UnlikeDrawn x = new UnlikeDrawn();
            for (int hand = 0; hand < 4; hand++) {
                Due.write(x, hand, "*x");
            }
            x.wipe(own);
            for (int hand = 0; hand < 4; hand++) {
                due.is("bytes of " + hand, x.count(3 + hand), hand == own ? 0 : 2);
                due.is("tenths of " + hand, x.tenths(hand, 3), hand == own ? 10 : Due.ANY_NONE);
            }
        }
    }

    // promise 8
    private static void faultOfAnEmptyText() {
        faultIs("", NONE);
    }

    private static void eachFirstByte() {
        for (int b = 0; b <= 255; b++) {
            boolean isPart = b == '*' || b >= '0' && b <= '7';
            faultIs("" + (char) b, isPart ? 1 : 0);
            faultIs((char) b + "x", isPart ? NONE : 0);
        }
    }

    private static void eachSecondByte() {
        for (int b = 0; b <= 255; b++) {
            int want = b == 'x' ? NONE : b == '+' || b == '-' ? 2 : 1;
            faultIs("0" + (char) b, want);
            faultIs("*" + (char) b, want);
            faultIs("7" + (char) b, want);
        }
    }

    private static void eachThirdByte() {
        for (int b = 0; b <= 255; b++) {
            faultIs("3+" + (char) b, isFigure(b) ? NONE : 2);
            faultIs("*-" + (char) b, isFigure(b) ? NONE : 2);
        }
    }

    private static void eachByteBehindX() {
        for (int b = 0; b <= 255; b++) {
            faultIs("3x" + (char) b, b == ';' ? 3 : 2);
        }
    }

    private static void eachByteBehindOneFigure() {
        for (int b = 0; b <= 255; b++) {
            faultIs("3+1" + (char) b, isFigure(b) ? NONE : b == ';' ? 4 : 3);
            faultIs("3-7" + (char) b, isFigure(b) ? 2 : b == ';' ? 4 : 3);
        }
    }

    private static void eachByteBehindASix() {
        for (int b = 0; b <= 255; b++) {
            faultIs("3+6" + (char) b, b == '0' ? NONE : isFigure(b) ? 2 : b == ';' ? 4 : 3);
            faultIs("3-6" + (char) b, b == '0' ? NONE : isFigure(b) ? 2 : b == ';' ? 4 : 3);
        }
    }

    private static void eachByteBehindTwoFigures() {
        for (int b = 0; b <= 255; b++) {
            faultIs("3+60" + (char) b, b == ';' ? 5 : 4);
            faultIs("3+61" + (char) b, 2);
        }
    }

    private static void eachByteBehindASemicolon() {
        for (int b = 0; b <= 255; b++) {
            boolean isPart = b == '*' || b >= '0' && b <= '7';
            faultIs("3x;" + (char) b, isPart ? 4 : 3);
            faultIs("3+1;" + (char) b + "-0", isPart ? NONE : 4);
        }
    }

    // promises 8 and 9
    private static void numberIs(String figures, int number) {
        UnlikeDrawn more = withText("5+" + figures);
        UnlikeDrawn less = withText("5-" + figures);
        boolean isWell = number <= 60;
        due.is("fault of +" + figures, more.fault(1), isWell ? NONE : 2);
        due.is("fault of -" + figures, less.fault(1), isWell ? NONE : 2);
        due.is("tenths of +" + figures, more.tenths(1, 5), isWell ? number : 10);
        due.is("tenths of -" + figures, less.tenths(1, 5), isWell ? -number : 10);
        due.is("tenths of another PART", less.tenths(1, 4), 10);
    }

    private static void eachNumberOfOneFigure() {
        for (int number = 0; number <= 9; number++) {
            numberIs("" + number, number);
        }
    }

    private static void eachNumberOfTwoFigures() {
        for (int number = 0; number <= 99; number++) {
            numberIs("" + number / 10 + number % 10, number);
        }
    }

    /** TENTHS have one or two figures: with the third it cannot go on, unless the two are already too many. */
    private static void numbersOfThreeFigures() {
        faultIs("3+000", 4);
        faultIs("3+010", 4);
        faultIs("3+060", 4);
        faultIs("3+100", 4);
        faultIs("3+600", 4);
        faultIs("3+610", 2);
        faultIs("3-999", 2);
    }

    private static void faultIsTheFirstOne() {
        faultIs("3+61;8x", 2);
        faultIs("8x;3+61", 0);
        faultIs("3x;3+61;3+62", 5);
        faultIs("3x;3+6;8", 7);
        faultIs("3x;;3+61", 3);
        faultIs(";3x", 0);
        faultIs("3x 3+61", 2);
    }

    private static void textsOfForty() {
        faultIs(LONG, NONE);
        faultIs(LONG.substring(0, 38), NONE);
        faultIs(LONG + ";", 40);
        faultIs(LONG + "0", 39);
        faultIs(LONG.substring(0, 35) + "*+1;0", 40);
        faultIs(LONG.substring(0, 35) + "0x;1x", NONE);
        faultIs(LONG.substring(0, 35) + "0x;1+", 40);
        faultIs(LONG.substring(0, 35) + "0x;1y", 39);
        faultIs(LONG.substring(0, 35) + "*+061", 39);
        faultIs("0x;1x;2x;3x;4x;5x;6x;7x;0x;1x;2x;3x;4x;*", 40);
        faultIs("0x;1x;2x;3x;4x;5x;6x;7x;0x;1x;2x;3x;4x;8", 39);
        faultIs("0x;1x;2x;3x;4x;5x;6x;7x;0x;1x;2x;3x;*-61", 38);
        faultIs("0x;1x;2x;3x;4x;5x;6x;7x;0x;1x;2x;3x;*-60", NONE);
    }

    private static void faultGoesAsTheTextGoesOn() {
        UnlikeDrawn x = new UnlikeDrawn();
        String text = "3+60;*x";
        int[] want = {1, 2, NONE, NONE, 5, 6, NONE};
        for (int i = 0; i < text.length(); i++) {
            x.type(0, text.charAt(i));
            due.is("fault behind " + (i + 1) + " bytes", x.fault(0), want[i]);
        }
        x.type(0, 0);
        due.is("a byte 0", x.fault(0), 7);
        x.type(0, ';');
        due.is("it stays the first", x.fault(0), 7);
    }

    // promise 9
    private static void withAFaultAsIfEmpty() {
        String[] texts = {"*x;", "*x;8x", "0+20;*+61", "*x0", "*x;*", "*+5;3-"};
        for (String text : texts) {
            UnlikeDrawn x = withText(text);
            for (int part = 0; part < 8; part++) {
                due.is("tenths of '" + text + "'", x.tenths(1, part), 10);
            }
            due.is("its bytes are counted", x.count(4), text.length());
        }
    }

    private static void theLaterPieceIsSo() {
        UnlikeDrawn x = withText("2+60;2x;2-60;3x;*+7;4+1;4x;5x;5-0");
        int[] want = {7, 7, 7, 7, Due.ANY_NONE, 0, 7, 7};
        for (int part = 0; part < 8; part++) {
            due.is("PART " + part, x.tenths(1, part), want[part]);
        }
        due.is("all behind all", withText("*x;*+60").tenths(1, 7), 60);
        due.is("left out behind all", withText("*+60;*x").tenths(1, 0), Due.ANY_NONE);
    }

    private static void zeroWithASign() {
        due.is("+0", withText("0+0").tenths(1, 0), 0);
        due.is("-0", withText("0-0").tenths(1, 0), 0);
        due.is("-00", withText("0-00").tenths(1, 0), 0);
    }

    // promise 10
    private static int drawnFrom(int mean, int place, String text) {
        UnlikeDrawn x = Due.withHeads(Due.row(mean), Due.row(place));
        Due.write(x, 0, text);
        return x.drawn(0, 1, 1, 0);
    }

    private static void drawnByTheLeastAndTheMost() {
        due.is("0 and 99 times 60 by 10", drawnFrom(0, 99, "0+60"), 594);
        due.is("0 and 99 times -60 by 10", drawnFrom(0, 99, "0-60"), -594);
        due.is("99 and -99 times 60 by 10", drawnFrom(99, 0, "0+60"), -495);
        due.is("99 and -99 times -60 by 10", drawnFrom(99, 0, "0-60"), 693);
        due.is("99 over 99", drawnFrom(99, 99, "0-60"), 99);
        due.is("0 over 0", drawnFrom(0, 0, "0+60"), 0);
        due.is("left out", drawnFrom(0, 99, "0x"), Due.ANY_NONE);
    }

    private static void drawnIsCutTowardsZero() {
        due.is("1 times 9 by 10", drawnFrom(50, 51, "0+9"), 50);
        due.is("-1 times 9 by 10", drawnFrom(50, 49, "0+9"), 50);
        due.is("1 times -9 by 10", drawnFrom(50, 51, "0-9"), 50);
        due.is("-1 times -9 by 10", drawnFrom(50, 49, "0-9"), 50);
        due.is("1 times 10 by 10", drawnFrom(50, 51, "0+10"), 51);
        due.is("-1 times 10 by 10", drawnFrom(50, 49, "0+10"), 49);
        due.is("1 times 19 by 10", drawnFrom(50, 51, "0+19"), 51);
        due.is("-1 times 19 by 10", drawnFrom(50, 49, "0+19"), 49);
        due.is("1 times -19 by 10", drawnFrom(50, 51, "0-19"), 49);
        due.is("-1 times 20 by 10", drawnFrom(50, 49, "0+20"), 48);
        due.is("below 0: 0 and 1 times -15 by 10", drawnFrom(0, 1, "0-15"), -1);
    }

    private static void drawnByZeroIsTheMean() {
        due.is("+0", drawnFrom(7, 99, "0+0"), 7);
        due.is("-0", drawnFrom(99, 7, "0-0"), 99);
    }

    private static void drawnWithAFault() {
        due.is("with a FAULT it is true", drawnFrom(50, 77, "0x;"), 77);
        due.is("with another one", drawnFrom(50, 77, "0+61"), 77);
    }

    // promise 11
    private static void settingsAtTheirEdges() {
        int[] least = {1, 1, 0};
        int[] most = {99, 60, 99};
        int[] first = {60, 10, 20};
        for (int what = 0; what < 3; what++) {
            UnlikeDrawn x = new UnlikeDrawn();
            due.is("the least", x.set(what, least[what]), first[what]);
            due.is("the least again", x.set(what, least[what]), least[what]);
            due.is("the most", x.set(what, most[what]), least[what]);
            due.is("one less", x.set(what, most[what] - 1), most[what]);
            due.is("one more than the least", x.set(what, least[what] + 1), most[what] - 1);
        }
        Refusal refusal = new Refusal(due, Scene.SOME.calls);
        refusal.is(Refusal.BAD, "set", 0, 0);
        refusal.is(Refusal.BAD, "set", 0, 100);
        refusal.is(Refusal.BAD, "set", 1, 0);
        refusal.is(Refusal.BAD, "set", 1, 61);
        refusal.is(Refusal.BAD, "set", 2, -1);
        refusal.is(Refusal.BAD, "set", 2, 100);
    }

    private static void settingsAreThree() {
        for (int own = 0; own < 3; own++) {
            UnlikeDrawn x = new UnlikeDrawn();
            x.set(own, 33);
            int[] first = {60, 10, 20};
            for (int what = 0; what < 3; what++) {
                due.is("set(" + what + ", 1) behind set(" + own + ", 33)", x.set(what, 1), what == own ? 33 : first[what]);
            }
        }
    }

    private static void ruinAtItsEdges() {
        UnlikeDrawn x = Due.withHeads(Due.row(0), Due.row(99), Due.row(1), Due.row(2));
        x.draw(0, 1, 1, 0);
        x.draw(0, 2, 1, 0);
        x.draw(0, 3, 1, 0);
        x.set(0, 99);
        due.is("off by 99 with RUIN 99", x.about(0, 3), 0);
        x.set(0, 98);
        due.is("off by 99 with RUIN 98", x.about(0, 3), 1);
        x.set(0, 1);
        due.is("off by 1 with RUIN 1", x.about(1, 3), 0);
        due.is("off by 2 with RUIN 1", x.about(2, 3), 1);
    }

    private static void lagAtItsEdges() {
        UnlikeDrawn x = Due.withHeads(Due.row(0), Due.row(61));
        x.knower(1, 0);
        x.knower(1, 0);
        x.draw(0, 1, 1, 0);
        x.set(1, 1);
        x.look(0, 0, 1);
        due.is("61 times 1 by 2", x.leans(0, 0), 30);
        x.set(1, 60);
        x.look(1, 0, 1);
        due.is("61 times 1 by 61", x.leans(1, 0), 1);
    }

    private static void oddAtItsEdges() {
        UnlikeDrawn x = Due.withHeads(Due.row());
        x.draw(0, 0, 1, 0);
        Due.write(x, 0, "*x");
        x.draw(0, 0, 1, 0);
        x.set(2, 0);
        due.is("8 times 0", x.unlike(0, 1), 0);
        x.set(2, 99);
        due.is("8 times 99", x.unlike(1, 0), 792);
    }
}
