/** Promises 25 to 29: a test for each boundary case of GROWS, BACK, NEAR, WITNESS and PLAINEST. */
final class YearsEdgesTest {
    private static final Due due = new Due("edges of years, hands, back");
    private static final int[] MOST = {99, 99, 99, 99, 99, 99, 99, 99};

    public static void main(String[] args) {
        growsWithoutDrawings();
        growsWithOne();
        growsInOneYear();
        growsInTwoYears();
        growsFromTheFirstYearToTheLast();
        growsWithoutThePart();
        growsOfOtherHeads();
        growsInLowestTerms();
        growsAtTheMost();
        growsWithCopies();
        backWithoutDrawings();
        backOfCopiesAlone();
        backWithTenthsZero();
        backOfAHandThatLeavesItOut();
        backOfWhatEachLeftOut();
        backIsCutTowardsZero();
        backMeanIsCutTowardsZero();
        backAtTheLeastAndTheMost();
        backOverTheMeanThatEachWasDrawnOver();
        backWithAFault();
        nearWithoutAnything();
        nearOnBothSides();
        nearOfPartsThatAreNotNone();
        nearAtTheMost();
        witnessAtEachT();
        witnessByHalfCutUp();
        witnessBelowAndAbove();
        witnessOfAllParts();
        plainestOfOne();
        plainestOfLikeOnes();
        plainestOfTheSetAlone();
        plainestByOne();
        plainestOfAllPartsTogether();
        due.end();
    }

    private static void growsIs(String call, UnlikeDrawn x, int part, long above, long below) {
        due.is(call + ", above", x.grows(0, part, 0), above);
        due.is(call + ", below", x.grows(0, part, 1), below);
    }

    /** DRAWINGS of HEAD 0, PART 0 of which is at each place in each YEAR. */
    private static UnlikeDrawn drawn(int[] years, int... places) {
        UnlikeDrawn x = Due.withHeads(Due.row(), Due.row());
        for (int i = 0; i < years.length; i++) {
            x.place(0, 0, places[i]);
            x.draw(0, 0, 2, years[i]);
        }
        return x;
    }

    // promise 25
    private static void growsWithoutDrawings() {
        Refusal refusal = new Refusal(due, calls -> calls.head());
        refusal.is(Refusal.NOT, "grows", 0, 0, 0);
        refusal.is(Refusal.NOT, "grows", 0, 7, 1);
    }

    private static void growsWithOne() {
        growsIs("one in 0", drawn(Due.row(0), 5), 0, Due.LONG_NOT, Due.LONG_NOT);
        growsIs("one in 99", drawn(Due.row(99), 5), 0, Due.LONG_NOT, Due.LONG_NOT);
    }

    private static void growsInOneYear() {
        growsIs("two in 0", drawn(Due.row(0, 0), 5, 6), 0, Due.LONG_NOT, Due.LONG_NOT);
        growsIs("three in 99", drawn(Due.row(99, 99, 99), 5, 6, 7), 0, Due.LONG_NOT, Due.LONG_NOT);
    }

    private static void growsInTwoYears() {
        growsIs("by 1 in 1", drawn(Due.row(0, 1), 5, 6), 0, 1, 1);
        growsIs("by -1 in 1", drawn(Due.row(98, 99), 6, 5), 0, -1, 1);
        growsIs("by 0 in 1", drawn(Due.row(7, 8), 6, 6), 0, 0, 1);
    }

    private static void growsFromTheFirstYearToTheLast() {
        growsIs("by 99 in 99", drawn(Due.row(0, 99), 0, 99), 0, 1, 1);
        growsIs("by -99 in 99", drawn(Due.row(0, 99), 99, 0), 0, -1, 1);
        growsIs("by 1 in 99", drawn(Due.row(0, 99), 50, 51), 0, 1, 99);
        growsIs("by -1 in 99", drawn(Due.row(0, 99), 51, 50), 0, -1, 99);
    }

    private static void growsWithoutThePart() {
        UnlikeDrawn x = drawn(Due.row(0, 1), 5, 6);
        Due.write(x, 0, "0x");
        x.draw(0, 0, 2, 50);
        growsIs("with one that has not the PART", x, 0, 1, 1);
        UnlikeDrawn y = drawn(Due.row(0), 5);
        Due.write(y, 0, "0x");
        y.draw(0, 0, 2, 50);
        growsIs("one alone has the PART", y, 0, Due.LONG_NOT, Due.LONG_NOT);
        growsIs("both have PART 1", y, 1, 0, 1);
    }

    private static void growsOfOtherHeads() {
        UnlikeDrawn x = drawn(Due.row(0), 5);
        x.draw(0, 1, 2, 50);
        growsIs("the other's does not count", x, 0, Due.LONG_NOT, Due.LONG_NOT);
        due.is("nor does the first for the other", x.grows(1, 0, 0), Due.LONG_NOT);
    }

    private static void growsInLowestTerms() {
        // n 3, YEARS 6, their squares 20, what is drawn 33, the products 80: 42 by 24
        growsIs("42 by 24", drawn(Due.row(0, 2, 4), 8, 10, 15), 0, 7, 4);
        growsIs("-42 by 24", drawn(Due.row(0, 2, 4), 15, 10, 8), 0, -7, 4);
    }

    private static void growsAtTheMost() {
        UnlikeDrawn x = Due.withHeads(Due.row(99), Due.row(0));
        Due.write(x, 0, "*+60");
        Due.write(x, 1, "*-60");
        x.draw(0, 0, 3, 0);
        x.copied(0, 0, 0);
        for (int i = 2; i < 16; i++) {
            x.copied(1, 1, 0);
        }
        for (int i = 16; i < 30; i++) {
            x.copied(0, 1, 99);
        }
        due.is("-7000", x.line(2, 0), -7000);
        due.is("7000", x.line(29, 0), 7000);
        // 16 in the YEAR 0, in all -95802 (349, 1849, and 14 times -7000); 14 in 99, each at 7000
        long sum = 349 + 1849 - 14 * 7000;
        long above = 30L * 99 * 14 * 7000 - 99L * 14 * (sum + 14 * 7000);
        long below = 30L * 14 * 9801 - 99L * 14 * 99 * 14;
        long common = java.math.BigInteger.valueOf(above).gcd(java.math.BigInteger.valueOf(below)).longValue();
        growsIs("7000 at most", x, 0, above / common, below / common);
    }

    private static void growsWithCopies() {
        UnlikeDrawn x = drawn(Due.row(0), 60);
        Due.write(x, 0, "0+20");
        x.copied(0, 0, 5);
        growsIs("60, and a copy at 70", x, 0, 2, 1);
    }

    // promise 26
    private static void backWithoutDrawings() {
        UnlikeDrawn x = drawn(Due.row(0), 60);
        due.is("of the HEAD", x.back(0, 0, 0), 60);
        due.is("of a HEAD without DRAWINGS", x.back(1, 0, 0), Due.ANY_NONE);
    }

    private static void backOfCopiesAlone() {
        UnlikeDrawn x = Due.withHeads(Due.row(60), Due.row());
        Due.write(x, 0, "0x");
        x.draw(0, 0, 2, 0);
        x.copied(1, 0, 0);
        due.is("what it left out", x.back(0, 1, 0), Due.ANY_NONE);
        UnlikeDrawn y = drawn(Due.row(0), 60);
        Due.write(y, 1, "0+60");
        y.copied(1, 0, 0);
        due.is("copies do not count", y.back(0, 0, 0), 60);
    }

    private static int backBy(String text) {
        UnlikeDrawn x = Due.withHeads(Due.row(60, 61), Due.row());
        x.draw(0, 0, 2, 0);
        Due.write(x, 1, text);
        return x.back(0, 1, 0);
    }

    private static void backWithTenthsZero() {
        due.is("+0", backBy("0+0"), Due.ANY_NONE);
        due.is("-0", backBy("0-0"), Due.ANY_NONE);
        due.is("00", backBy("*+00"), Due.ANY_NONE);
        due.is("+1", backBy("0+1"), 150);
        due.is("-1", backBy("0-1"), -50);
    }

    private static void backOfAHandThatLeavesItOut() {
        due.is("left out", backBy("0x"), Due.ANY_NONE);
        due.is("all left out", backBy("*x"), Due.ANY_NONE);
        due.is("another one left out", backBy("1x"), 60);
    }

    private static void backOfWhatEachLeftOut() {
        UnlikeDrawn x = drawn(Due.row(0, 0), 60, 80);
        Due.write(x, 0, "0x");
        x.draw(0, 0, 2, 0);
        due.is("70 of two, the third has it not", x.back(0, 1, 0), 70);
        due.is("PART 1 of three", x.back(0, 1, 1), 50);
    }

    private static void backIsCutTowardsZero() {
        due.is("10 times 10 by 60", backBy("0+60"), 51);
        due.is("10 times 10 by -60", backBy("0-60"), 49);
        due.is("10 times 10 by 51", backBy("0+51"), 51);
        due.is("10 times 10 by 50", backBy("0+50"), 52);
        UnlikeDrawn x = drawn(Due.row(0), 49);
        Due.write(x, 1, "0+11");
        due.is("-1 times 10 by 11", x.back(0, 1, 0), 50);
        Due.write(x, 1, "0-11");
        due.is("-1 times 10 by -11", x.back(0, 1, 0), 50);
        Due.write(x, 1, "0+10");
        due.is("-1 times 10 by 10", x.back(0, 1, 0), 49);
        Due.write(x, 1, "0+6");
        due.is("-1 times 10 by 6", x.back(0, 1, 0), 49);
        Due.write(x, 1, "0+5");
        due.is("-1 times 10 by 5", x.back(0, 1, 0), 48);
    }

    private static void backMeanIsCutTowardsZero() {
        due.is("60 and 61 by 2", drawn(Due.row(0, 0), 60, 61).back(0, 0, 0), 60);
        due.is("60, 60 and 62 by 3", drawn(Due.row(0, 0, 0), 60, 60, 62).back(0, 0, 0), 60);
        due.is("60, 61 and 62 by 3", drawn(Due.row(0, 0, 0), 60, 61, 62).back(0, 0, 0), 61);
        UnlikeDrawn x = drawn(Due.row(0, 0), 60, 61);
        Due.write(x, 1, "0-1");
        due.is("-50 and -60 by 2", x.back(0, 1, 0), -55);
        x.place(0, 0, 55);
        x.draw(0, 0, 2, 0);
        due.is("-50, -60 and 0 by 3", x.back(0, 1, 0), -36);
    }

    private static void backAtTheLeastAndTheMost() {
        UnlikeDrawn x = Due.withHeads(Due.row(0, 99), Due.row(99, 0));
        Due.write(x, 0, "*-60");
        Due.write(x, 1, "*+1");
        Due.write(x, 2, "*-1");
        for (int i = 0; i < 30; i++) {
            x.draw(0, 0, 2, 0);
        }
        due.is("99 and 594", x.line(0, 0), 693);
        due.is("0 less 594", x.line(0, 1), -594);
        due.is("99 and 5940", x.back(0, 1, 0), 6039);
        due.is("99 less 5940", x.back(0, 2, 0), -5841);
        due.is("0 less 5940", x.back(0, 1, 1), -5940);
        due.is("0 and 5940", x.back(0, 2, 1), 5940);
        due.is("by the HAND it was drawn with", x.back(0, 0, 0), 0);
        due.is("by the HAND it was drawn with, PART 1", x.back(0, 0, 1), 99);
    }

    private static void backOverTheMeanThatEachWasDrawnOver() {
        UnlikeDrawn x = Due.withHeads(Due.row(60), Due.row(40), Due.row(20));
        Due.write(x, 0, "0+20");
        x.draw(0, 0, 2, 0);
        x.draw(0, 0, 4, 0);
        x.draw(0, 0, 1, 0);
        x.place(0, 0, 0);
        x.place(1, 0, 99);
        due.is("60 from each", x.back(0, 0, 0), 60);
        due.is("80, 100 and 60 by a true HAND", x.back(0, 1, 0), 80);
    }

    private static void backWithAFault() {
        due.is("as if it was empty", backBy("0x;"), 60);
        due.is("as if it was empty, with 0", backBy("0+0;8"), 60);
    }

    // promise 27
    private static void nearWithoutAnything() {
        UnlikeDrawn x = Due.withHeads(Due.row(60), Due.row());
        due.is("without DRAWINGS", x.near(0, 0), 0);
        Due.write(x, 1, "*x");
        Due.write(x, 2, "*+0");
        x.draw(0, 0, 2, 0);
        x.place(0, 0, 0);
        due.is("all left out", x.near(0, 1), 0);
        due.is("all with 0", x.near(0, 2), 0);
        due.is("60 for 0", x.near(0, 0), 60);
    }

    private static void nearOnBothSides() {
        UnlikeDrawn x = Due.withHeads(Due.row(60, 60), Due.row());
        x.draw(0, 0, 2, 0);
        x.place(0, 0, 70);
        x.place(0, 1, 57);
        due.is("10 less and 3 more", x.near(0, 0), 13);
    }

    private static void nearOfPartsThatAreNotNone() {
        for (int part = 0; part < 8; part++) {
            UnlikeDrawn x = Due.withHeads(Due.row(), Due.row());
            x.draw(0, 0, 2, 0);
            for (int other = 0; other < 8; other++) {
                x.place(0, other, 50 + (1 << other) % 49);
            }
            int all = x.near(0, 0);
            Due.write(x, 1, part + "x");
            due.is("without PART " + part, x.near(0, 1), all - (1 << part) % 49);
            Due.write(x, 1, part + "-0");
            due.is("with 0 for PART " + part, x.near(0, 1), all - (1 << part) % 49);
        }
    }

    private static void nearAtTheMost() {
        UnlikeDrawn x = Due.withHeads(new int[8], MOST);
        Due.write(x, 0, "*-60");
        Due.write(x, 1, "*+1");
        x.draw(0, 0, 2, 0);
        due.is("8 times 6039", x.near(0, 1), 48312);
    }

    // promise 28
    private static void witnessAtEachT() {
        // 99, 49, 24, 12, 6, 3, 1, 0
        UnlikeDrawn x = Due.withHeads(Due.row(99), Due.row(0));
        int[] ts = {0, 1, 2, 3, 5, 6, 11, 12, 23, 24, 48, 49, 98, 99};
        int[] want = {7, 6, 6, 5, 5, 4, 4, 3, 3, 2, 2, 1, 1, 0};
        for (int i = 0; i < ts.length; i++) {
            due.is("witness with t " + ts[i], x.witness(0, 2, ts[i]), want[i]);
            due.is("the other way with t " + ts[i], x.witness(1, 1, ts[i]), want[i]);
        }
    }

    private static void witnessByHalfCutUp() {
        int[] off = {0, 1, 2, 3, 4, 7, 8, 15, 16, 31, 32, 49};
        int[] want = {0, 1, 2, 2, 3, 3, 4, 4, 5, 5, 6, 6};
        for (int i = 0; i < off.length; i++) {
            UnlikeDrawn x = Due.withHeads(Due.row(50 + off[i]), Due.row());
            due.is("off by " + off[i], x.witness(0, 2, 0), want[i]);
            x.place(0, 0, 50 - off[i]);
            due.is("off by -" + off[i], x.witness(0, 2, 0), want[i]);
        }
    }

    private static void witnessBelowAndAbove() {
        UnlikeDrawn x = Due.withHeads(Due.row(57, 43), Due.row());
        due.is("7 on both sides", x.witness(0, 2, 0), 6);
        due.is("over the MEAN of both, which is cut: 4 and 3", x.witness(0, 3, 0), 5);
        due.is("from its own", x.witness(0, 1, 0), 0);
    }

    private static void witnessOfAllParts() {
        UnlikeDrawn x = Due.withHeads(new int[8], MOST);
        due.is("8 times 7", x.witness(0, 2, 0), 56);
        due.is("8 times 6", x.witness(0, 2, 1), 48);
        due.is("8 times 1", x.witness(0, 2, 98), 8);
        due.is("none", x.witness(0, 2, 99), 0);
        x.place(0, 7, 1);
        due.is("7 times 1: PART 7 is off by 98", x.witness(0, 2, 98), 7);
    }

    // promise 29
    private static void plainestOfOne() {
        UnlikeDrawn x = new UnlikeDrawn();
        for (int head = 0; head < 8; head++) {
            x.head();
            x.place(head, 0, 12 * head);
        }
        for (int head = 0; head < 8; head++) {
            due.is("of " + head + " alone", x.plainest(1 << head), head);
        }
    }

    private static void plainestOfLikeOnes() {
        UnlikeDrawn x = Due.withHeads(Due.row(40), Due.row(60), Due.row(60), Due.row(40));
        due.is("10 on both sides", x.plainest(3), 0);
        due.is("10 on both sides, turned", x.plainest(12), 2);
        due.is("all alike", x.plainest(9), 0);
        due.is("all of them", x.plainest(15), 0);
        due.is("without the first", x.plainest(6), 1);
    }

    private static void plainestOfTheSetAlone() {
        UnlikeDrawn x = Due.withHeads(Due.row(50), Due.row(0), Due.row(99), Due.row(49));
        due.is("49 and a half, cut: 49 or 50 off", x.plainest(6), 1);
        due.is("with the one at 49", x.plainest(14), 3);
        due.is("with the one at 50", x.plainest(7), 0);
    }

    private static void plainestByOne() {
        UnlikeDrawn x = Due.withHeads(Due.row(40), Due.row(61));
        due.is("the MEAN is 50: 10 and 11", x.plainest(3), 0);
        x.place(0, 0, 61);
        x.place(1, 0, 40);
        due.is("turned: 11 and 10", x.plainest(3), 1);
    }

    private static void plainestOfAllPartsTogether() {
        UnlikeDrawn x = Due.withHeads(Due.row(50, 50, 50, 50, 50, 50, 50, 60), Due.row(54, 46, 50, 50, 50, 50, 50, 60),
                Due.row(46, 54, 50, 50, 50, 50, 50, 30));
        // the MEAN is 50 in all PARTS: off by 10; 4, 4 and 10; 4, 4 and 20
        due.is("of three", x.plainest(7), 0);
        due.is("the MEAN is 50, 50 and 45: 8 and 15 each", x.plainest(6), 1);
    }
}
