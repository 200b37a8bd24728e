/** Promises 25 to 29. */
final class YearsTest {
    private static final Due due = new Due("years, hands, back");

    public static void main(String[] args) {
        grows();
        growsRefusals();
        back();
        backBelowZero();
        backRefusals();
        near();
        witness();
        witnessToTheMost();
        witnessRefusals();
        plainest();
        due.end();
    }

    // promise 25
    private static void grows() {
        UnlikeDrawn x = Due.withHeads(Due.row(60), Due.row(0));
        x.draw(0, 0, 1, 0);
        x.draw(0, 1, 1, 1);
        x.place(0, 0, 55);
        x.draw(0, 0, 1, 2);
        due.is("2 times 110 less 2 times 115, by 4: above", x.grows(0, 0, 0), -5);
        due.is("below", x.grows(0, 0, 1), 2);
        due.is("what does not grow: above", x.grows(0, 1, 0), 0);
        due.is("what does not grow: below", x.grows(0, 1, 1), 1);
        Due.write(x, 1, "0x");
        x.draw(1, 0, 1, 9);
        due.is("what is left out does not count", x.grows(0, 0, 0), -5);
        x.place(0, 0, 75);
        x.draw(0, 0, 1, 10);
        x.copied(0, 4, 12);
        // n 4, YEARS 24, their squares 248, what is drawn 265, the products 1760
        due.is("copies count: above", x.grows(0, 0, 0), (4 * 1760 - 24 * 265) / 8);
        due.is("copies count: below", x.grows(0, 0, 1), (4 * 248 - 24 * 24) / 8);
    }

    private static void growsRefusals() {
        UnlikeDrawn x = Due.withHeads(Due.row());
        due.is("without DRAWINGS", x.grows(0, 0, 0), Due.LONG_NOT);
        x.draw(0, 0, 1, 5);
        due.is("with one DRAWING", x.grows(0, 0, 0), Due.LONG_NOT);
        x.draw(0, 0, 1, 5);
        due.is("with two of one YEAR", x.grows(0, 0, 1), Due.LONG_NOT);
        due.is("grows(1, 0, 0)", x.grows(1, 0, 0), Due.LONG_BAD);
        due.is("grows(-1, 0, 0)", x.grows(-1, 0, 0), Due.LONG_BAD);
        due.is("grows(0, 8, 0)", x.grows(0, 8, 0), Due.LONG_BAD);
        due.is("grows(0, -1, 0)", x.grows(0, -1, 0), Due.LONG_BAD);
        due.is("grows(0, 0, 2)", x.grows(0, 0, 2), Due.LONG_BAD);
        due.is("grows(0, 0, -1)", x.grows(0, 0, -1), Due.LONG_BAD);
        x.draw(0, 0, 1, 6);
        due.is("with another YEAR", x.grows(0, 0, 1), 1);
    }

    // promise 26
    private static void back() {
        UnlikeDrawn x = Due.withHeads(Due.row(70, 30, 50, 70), Due.row(50, 50));
        Due.write(x, 0, "0+20;1-10;3+3");
        Due.write(x, 1, "*x;0+0;2-0");
        due.is("without DRAWINGS", x.back(0, 0, 0), Due.ANY_NONE);
        x.draw(0, 0, 3, 0);
        due.is("60 and 20 times 10 by 20", x.back(0, 0, 0), 70);
        due.is("40 and 10 times 10 by -10", x.back(0, 0, 1), 30);
        due.is("60 and 3 times 10 by 3", x.back(0, 0, 3), 70);
        due.is("by a true HAND", x.back(0, 2, 0), 80);
        due.is("by a true HAND, PART 1", x.back(0, 2, 1), 50);
        due.is("TENTHS are 0", x.back(0, 1, 0), Due.ANY_NONE);
        due.is("TENTHS are -0", x.back(0, 1, 2), Due.ANY_NONE);
        due.is("left out", x.back(0, 1, 3), Due.ANY_NONE);
        due.is("another HEAD", x.back(1, 0, 0), Due.ANY_NONE);
        x.copied(0, 0, 0);
        due.is("copies do not count", x.back(0, 0, 0), 70);
        Due.write(x, 3, "0x");
        x.draw(3, 0, 3, 0);
        due.is("what is left out does not count", x.back(0, 0, 0), 70);
        x.place(1, 0, 70);
        x.draw(2, 0, 3, 0);
        due.is("70 over 60 and 70 over 70", x.back(0, 0, 0), 70);
        x.place(0, 0, 75);
        x.draw(2, 0, 3, 0);
        due.is("70, 70, and 72 and 3 times 10 by 20", x.back(0, 0, 0), 71);
        due.is("80, 70, 75 by a true HAND", x.back(0, 2, 0), 75);
        Due.write(x, 0, "*+60");
        due.is("60 and 20 by 6; 70; 72 and 3 by 6", x.back(0, 0, 0), 68);
    }

    private static void backBelowZero() {
        UnlikeDrawn x = Due.withHeads(Due.row(99), Due.row(0));
        Due.write(x, 0, "*-60");
        x.draw(0, 0, 3, 0);
        due.is("-251", x.back(0, 1, 0), -251);
        x.place(0, 0, 98);
        x.draw(1, 0, 3, 0);
        due.is("-251 and 98, by 2, cut towards 0", x.back(0, 1, 0), -76);
        Due.write(x, 0, "*+7");
        due.is("49 and -300 times 10 by 7; 49 and 49 times 10 by 7", x.back(0, 0, 0), (49 - 428 + 49 + 70) / 2);
    }

    private static void backRefusals() {
        UnlikeDrawn x = Due.withHeads(Due.row());
        x.draw(0, 0, 1, 0);
        due.is("back(1, 0, 0)", x.back(1, 0, 0), Due.ANY_BAD);
        due.is("back(-1, 0, 0)", x.back(-1, 0, 0), Due.ANY_BAD);
        due.is("back(0, 4, 0)", x.back(0, 4, 0), Due.ANY_BAD);
        due.is("back(0, -1, 0)", x.back(0, -1, 0), Due.ANY_BAD);
        due.is("back(0, 0, 8)", x.back(0, 0, 8), Due.ANY_BAD);
        due.is("back(0, 0, -1)", x.back(0, 0, -1), Due.ANY_BAD);
        due.is("near(1, 0)", x.near(1, 0), UnlikeDrawn.BAD);
        due.is("near(-1, 0)", x.near(-1, 0), UnlikeDrawn.BAD);
        due.is("near(0, 4)", x.near(0, 4), UnlikeDrawn.BAD);
        due.is("near(0, -1)", x.near(0, -1), UnlikeDrawn.BAD);
    }

    // promise 27
    private static void near() {
        UnlikeDrawn x = Due.withHeads(Due.row(70, 30), Due.row(50, 50));
        due.is("without DRAWINGS", x.near(0, 0), 0);
        Due.write(x, 0, "0+20;1-10");
        x.draw(0, 0, 3, 0);
        due.is("by the same HAND", x.near(0, 0), 0);
        due.is("80 for 70 and 50 for 30", x.near(0, 1), 10 + 20);
        Due.write(x, 1, "1x");
        due.is("without PART 1", x.near(0, 1), 10);
        Due.write(x, 1, "1+0");
        due.is("with TENTHS 0 for PART 1", x.near(0, 1), 10);
        x.place(0, 0, 99);
        x.place(0, 7, 40);
        due.is("the PLACES as they are now", x.near(0, 1), 19 + 10);
    }

    // promise 28
    private static void witness() {
        UnlikeDrawn x = Due.withHeads(Due.row(57, 43), Due.row(50, 50), Due.row(50, 50));
        // from 50 and 50 over HEADS 1 and 2: 7 to 3 to 1 to 0, twice
        due.is("until none is off", x.witness(0, 6, 0), 6);
        due.is("until none is off by more than 1", x.witness(0, 6, 1), 4);
        due.is("until none is off by more than 2", x.witness(0, 6, 2), 4);
        due.is("until none is off by more than 3", x.witness(0, 6, 3), 2);
        due.is("until none is off by more than 6", x.witness(0, 6, 6), 2);
        due.is("none is off by more than 7", x.witness(0, 6, 7), 0);
        due.is("none is off by more than 99", x.witness(0, 6, 99), 0);
        due.is("from its own MEAN", x.witness(0, 1, 0), 0);
        // the MEAN of 57 and 50 is 53 and of 43 and 50 is 46: 4 to 2 to 1 to 0, 3 to 1 to 0
        due.is("from a MEAN that is cut", x.witness(0, 3, 0), 5);
    }

    private static void witnessToTheMost() {
        UnlikeDrawn x = Due.withHeads(new int[8], Due.row(99, 99, 99, 99, 99, 99, 99, 99));
        due.is("99, 49, 24, 12, 6, 3, 1, 0, eight times", x.witness(0, 2, 0), 56);
        due.is("up from 0", x.witness(1, 1, 0), 56);
        due.is("until none is off by more than 1", x.witness(1, 1, 1), 48);
        due.is("until none is off by more than 98", x.witness(1, 1, 98), 8);
        due.is("off by 99", x.witness(1, 1, 99), 0);
    }

    private static void witnessRefusals() {
        UnlikeDrawn x = Due.withHeads(Due.row());
        due.is("witness(1, 1, 0)", x.witness(1, 1, 0), UnlikeDrawn.BAD);
        due.is("witness(-1, 1, 0)", x.witness(-1, 1, 0), UnlikeDrawn.BAD);
        due.is("witness(0, 0, 0)", x.witness(0, 0, 0), UnlikeDrawn.BAD);
        due.is("witness(0, 2, 0)", x.witness(0, 2, 0), UnlikeDrawn.BAD);
        due.is("witness(0, 1, -1)", x.witness(0, 1, -1), UnlikeDrawn.BAD);
        due.is("witness(0, 1, 100)", x.witness(0, 1, 100), UnlikeDrawn.BAD);
    }

    // promise 29
    private static void plainest() {
        UnlikeDrawn x = Due.withHeads(Due.row(60, 60), Due.row(50, 52), Due.row(40, 40), Due.row(50, 50, 50, 50, 50, 50, 50, 0));
        // the MEAN of 0 to 2 is 50 and 50: off by 20, 2, 20
        due.is("plainest(7)", x.plainest(7), 1);
        due.is("of like ones the least", x.plainest(5), 0);
        due.is("of one", x.plainest(8), 3);
        due.is("of those of the SET alone", x.plainest(12), 2);
        x.place(1, 0, 99);
        // the MEAN is 66 and 50: off by 6 and 10, 33 and 2, 26 and 10
        due.is("by PART 0 too", x.plainest(7), 0);
        due.is("plainest(0)", x.plainest(0), UnlikeDrawn.BAD);
        due.is("plainest(16)", x.plainest(16), UnlikeDrawn.BAD);
        due.is("plainest(-1)", x.plainest(-1), UnlikeDrawn.BAD);
        due.is("plainest(1) of nobody", new UnlikeDrawn().plainest(1), UnlikeDrawn.BAD);
    }
}
