/** Promises 17 to 24. */
final class KnowersTest {
    private static final Due due = new Due("knowers");

    public static void main(String[] args) {
        knower();
        knowerRefusals();
        look();
        lookRefusals();
        leansBelowZero();
        score();
        scoreRefusals();
        named();
        namedByTheWholeFraction();
        namedByGreatNumbers();
        namedRefusals();
        much();
        muchOfLikeOnes();
        muchWithAllParts();
        muchRefusals();
        few();
        fewOfOneWhoLeans();
        fewIsAllParts();
        partsRefusals();
        due.end();
    }

    /** HEADS 0 and 1 are opposite to one another, so that their MEAN is 50; HEAD 2 is off by PART 0 alone. */
    private static UnlikeDrawn opposites() {
        return Due.withHeads(Due.row(60, 40), Due.row(40, 60), Due.row(60, 50));
    }

    // promise 17
    private static void knower() {
        UnlikeDrawn x = opposites();
        due.is("knower(1, 0)", x.knower(1, 0), 0);
        due.is("knower(6, 7)", x.knower(6, 7), 1);
        due.is("knower(7, 1)", x.knower(7, 1), 2);
        due.is("knower(4, 4)", x.knower(4, 4), 3);
        due.is("knower, a fifth", x.knower(1, 1), UnlikeDrawn.FULL);
        due.is("BAD ahead of FULL", x.knower(0, 1), UnlikeDrawn.BAD);
        due.is("count(2)", x.count(2), 4);
        x.place(0, 0, 99);
        due.is("the MEAN as the PLACES were", x.leans(0, 0), 60);
        due.is("MEAN of 1 and 2", x.leans(1, 1), 55);
        due.is("MEAN of all", x.leans(2, 0), 53);
    }

    private static void knowerRefusals() {
        UnlikeDrawn x = opposites();
        due.is("knower(0, 1)", x.knower(0, 1), UnlikeDrawn.BAD);
        due.is("knower(8, 1)", x.knower(8, 1), UnlikeDrawn.BAD);
        due.is("knower(-1, 1)", x.knower(-1, 1), UnlikeDrawn.BAD);
        due.is("knower(1, 8)", x.knower(1, 8), UnlikeDrawn.BAD);
        due.is("knower(1, 9)", x.knower(1, 9), UnlikeDrawn.BAD);
        due.is("knower(1, -1)", x.knower(1, -1), UnlikeDrawn.BAD);
        due.is("count(2) after refusals", x.count(2), 0);
    }

    // promises 18 and 19
    private static void look() {
        UnlikeDrawn x = Due.withHeads(Due.row(80, 20, 80), Due.row(20, 80, 20));
        x.knower(3, 0);
        x.knower(3, 0);
        Due.write(x, 0, "2x");
        x.draw(0, 0, 3, 0);
        due.is("look(0, 0, 0)", x.look(0, 0, 0), 1);
        due.is("0 minutes", x.leans(0, 0), 50);
        due.is("look(0, 0, 10)", x.look(0, 0, 10), 1);
        due.is("50 and 30 times 10 by 20", x.leans(0, 0), 65);
        due.is("50 and -30 times 10 by 20", x.leans(0, 1), 35);
        due.is("what is left out", x.leans(0, 2), 50);
        due.is("PART 7", x.leans(0, 7), 50);
        due.is("the other KNOWER", x.leans(1, 0), 50);
        x.look(0, 0, 5);
        due.is("65 and 15 times 5 by 15", x.leans(0, 0), 70);
        x.set(1, 1);
        due.is("it stays so with another LAG", x.leans(0, 0), 70);
        x.look(1, 0, 60);
        due.is("50 and 30 times 60 by 61, cut", x.leans(1, 0), 79);
        due.is("50 and -30 times 60 by 61, cut towards 0", x.leans(1, 1), 21);
    }

    private static void lookRefusals() {
        UnlikeDrawn x = opposites();
        x.knower(1, 1);
        x.draw(0, 1, 1, 0);
        due.is("look(0, 0, -1)", x.look(0, 0, -1), UnlikeDrawn.BAD);
        due.is("look(0, 0, 61)", x.look(0, 0, 61), UnlikeDrawn.BAD);
        due.is("look(0, 1, 5)", x.look(0, 1, 5), UnlikeDrawn.BAD);
        due.is("look(0, -1, 5)", x.look(0, -1, 5), UnlikeDrawn.BAD);
        due.is("look(1, 0, 5)", x.look(1, 0, 5), UnlikeDrawn.BAD);
        due.is("look(-1, 0, 5)", x.look(-1, 0, 5), UnlikeDrawn.BAD);
        due.is("leans(0, 0) after refusals", x.leans(0, 0), 60);
        due.is("leans(0, 8)", x.leans(0, 8), Due.ANY_BAD);
        due.is("leans(0, -1)", x.leans(0, -1), Due.ANY_BAD);
        due.is("leans(1, 0)", x.leans(1, 0), Due.ANY_BAD);
        due.is("leans(-1, 0)", x.leans(-1, 0), Due.ANY_BAD);
    }

    private static void leansBelowZero() {
        UnlikeDrawn x = Due.withHeads(Due.row(99), Due.row(0));
        x.knower(3, 3);
        Due.write(x, 0, "*-60");
        x.set(1, 60);
        x.draw(0, 0, 3, 0);
        x.look(0, 0, 60);
        due.is("49 and -300 times 60 by 120", x.leans(0, 0), -101);
    }

    // promise 20
    private static void score() {
        UnlikeDrawn x = opposites();
        x.knower(3, 7);
        Due.write(x, 1, "0+15");
        Due.write(x, 2, "1x");
        Due.write(x, 3, "*x");
        for (int hand = 0; hand < 4; hand++) {
            x.draw(hand, 0, 3, 0);
        }
        due.is("200 times 200 by 200", x.score(0, 0, 0, 0), 200);
        due.is("by 1", x.score(0, 0, 0, 1), 1);
        due.is("a sum below 0", x.score(0, 0, 1, 0), 0);
        due.is("0 is by 1", x.score(0, 0, 1, 1), 1);
        due.is("250 times 250 by 200", x.score(0, 1, 0, 0), 625);
        due.is("by 2", x.score(0, 1, 0, 1), 2);
        due.is("without PART 1", x.score(0, 2, 0, 0), 100);
        due.is("without any PART", x.score(0, 3, 0, 0), 0);
        due.is("without any PART, by 1", x.score(0, 3, 0, 1), 1);
        x.set(0, 1);
        due.is("a MONSTER has a SCORE", x.score(0, 0, 0, 0), 200);
        x.place(0, 0, 70);
        due.is("by PLACES as they are now: 300 times 300 by 500", x.score(0, 0, 0, 0), 180);
    }

    private static void scoreRefusals() {
        UnlikeDrawn x = opposites();
        x.knower(3, 3);
        x.draw(0, 0, 3, 0);
        due.is("score(1, 0, 0, 0)", x.score(1, 0, 0, 0), Due.LONG_BAD);
        due.is("score(-1, 0, 0, 0)", x.score(-1, 0, 0, 0), Due.LONG_BAD);
        due.is("score(0, 1, 0, 0)", x.score(0, 1, 0, 0), Due.LONG_BAD);
        due.is("score(0, -1, 0, 0)", x.score(0, -1, 0, 0), Due.LONG_BAD);
        due.is("score(0, 0, 3, 0)", x.score(0, 0, 3, 0), Due.LONG_BAD);
        due.is("score(0, 0, -1, 0)", x.score(0, 0, -1, 0), Due.LONG_BAD);
        due.is("score(0, 0, 0, 2)", x.score(0, 0, 0, 2), Due.LONG_BAD);
        due.is("score(0, 0, 0, -1)", x.score(0, 0, 0, -1), Due.LONG_BAD);
        due.is("BAD ahead of NOT", x.score(0, 0, 2, 2), Due.LONG_BAD);
        due.is("score(0, 0, 2, 0)", x.score(0, 0, 2, 0), Due.LONG_NOT);
        due.is("score(0, 0, 2, 1)", x.score(0, 0, 2, 1), Due.LONG_NOT);
    }

    // promise 21
    private static void named() {
        UnlikeDrawn x = opposites();
        x.knower(3, 7);
        x.knower(3, 6);
        x.knower(3, 1);
        Due.write(x, 1, "0+15");
        x.draw(0, 0, 3, 0);
        x.draw(1, 0, 3, 0);
        x.draw(0, 1, 3, 0);
        due.is("the greatest SCORE", x.named(0, 0, 0), 0);
        due.is("200 less 100", x.named(0, 0, 1), 100);
        due.is("312 and a half, cut, less 225", x.named(0, 1, 1), 87);
        due.is("by one who does not KNOW 0", x.named(1, 0, 0), 2);
        due.is("100 less 0", x.named(1, 0, 1), 100);
        due.is("less 0 without others", x.named(2, 1, 1), 312);
        due.is("1 by one who KNOWS 1", x.named(0, 2, 0), 1);
        due.is("1 by one who KNOWS but 0", x.named(2, 2, 0), UnlikeDrawn.NONE);
        due.is("MARGIN of nobody", x.named(2, 2, 1), UnlikeDrawn.NOT);
        x.set(0, 14);
        due.is("a MONSTER", x.named(0, 1, 0), UnlikeDrawn.NONE);
        due.is("MARGIN of a MONSTER", x.named(0, 1, 1), UnlikeDrawn.NOT);
        due.is("no MONSTER", x.named(0, 0, 0), 0);
        x.place(1, 0, 60);
        x.place(1, 1, 40);
        due.is("of like ones the least", x.named(0, 0, 0), 0);
        due.is("MARGIN of like ones", x.named(0, 0, 1), 0);
    }

    private static void namedByTheWholeFraction() {
        UnlikeDrawn x = Due.withHeads(Due.row(52, 51), Due.row(53, 51), Due.row(), Due.row(51));
        x.knower(4, 3);
        x.draw(0, 3, 8, 0);
        due.is("4 by 5", 10 * x.score(0, 0, 0, 0) + x.score(0, 0, 0, 1), 45);
        due.is("9 by 10", 100 * x.score(0, 0, 1, 0) + x.score(0, 0, 1, 1), 910);
        due.is("9 by 10 is more than 4 by 5", x.named(0, 0, 0), 1);
        due.is("MARGIN of what is cut", x.named(0, 0, 1), 0);
    }

    /** SCORES whose cross products are beyond a long. */
    private static void namedByGreatNumbers() {
        int[] far = {99, 99, 99, 99, 99, 99, 99, 99};
        int[] further = {99, 99, 99, 99, 99, 99, 99, 98};
        UnlikeDrawn x = Due.withHeads(far, new int[8], further);
        Due.write(x, 0, "*+60");
        x.draw(0, 0, 3, 0);
        x.copied(0, 0, 0);
        x.copied(0, 1, 0);
        x.set(1, 1);
        x.knower(3, 5);
        for (int i = 0; i < 9; i++) {
            x.look(0, 2, 60);
        }
        due.is("one's MEAN", x.leans(0, 0), 6999);
        due.is("MONSTER", x.named(0, 2, 0), UnlikeDrawn.NONE);
        Due.write(x, 1, "*-0");
        x.copied(1, 0, 0);
        due.is("49 less 6999, times 99 less 6999 and once more", x.score(0, 3, 0, 0), 8L * 6950 * 6950);
        due.is("NAMED", x.named(0, 3, 0), 0);
        long along = 6950L * (7 * 6900 + 6901);
        long square = 7L * 6900 * 6900 + 6901L * 6901;
        due.is("MARGIN", x.named(0, 3, 1), 8L * 6950 * 6950 - along * along / square);
    }

    private static void namedRefusals() {
        UnlikeDrawn x = opposites();
        x.knower(3, 3);
        x.draw(0, 0, 3, 0);
        due.is("named(0, 0, 2)", x.named(0, 0, 2), UnlikeDrawn.BAD);
        due.is("named(0, 0, -1)", x.named(0, 0, -1), UnlikeDrawn.BAD);
        due.is("named(0, 1, 0)", x.named(0, 1, 0), UnlikeDrawn.BAD);
        due.is("named(0, -1, 0)", x.named(0, -1, 0), UnlikeDrawn.BAD);
        due.is("named(1, 0, 0)", x.named(1, 0, 0), UnlikeDrawn.BAD);
        due.is("named(-1, 0, 1)", x.named(-1, 0, 1), UnlikeDrawn.BAD);
    }

    // promise 22
    private static void much() {
        UnlikeDrawn x = opposites();
        x.knower(3, 3);
        x.knower(2, 3);
        due.is("the least", x.much(0, 0, 3, 0), 1);
        due.is("the best", x.much(0, 0, 3, 1), 60);
        due.is("never a MONSTER: off by 60", x.much(0, 0, 3, 2), UnlikeDrawn.NONE);
        due.is("with 0, by one who leans to the other", x.much(1, 0, 3, 0), 0);
        x.set(0, 30);
        due.is("the best that is no MONSTER", x.much(0, 0, 3, 1), 30);
        due.is("the least MONSTER", x.much(0, 0, 3, 2), 31);
        due.is("over the HEAD's own MEAN", x.much(0, 0, 1, 0), 0);
        due.is("over the HEAD's own MEAN, the best", x.much(0, 0, 1, 1), 0);
        due.is("over the HEAD's own MEAN, MONSTER", x.much(0, 0, 1, 2), UnlikeDrawn.NONE);
        x.knower(1, 3);
        due.is("whose MEAN is the HEAD's: never", x.much(2, 0, 3, 0), UnlikeDrawn.NONE);
        due.is("whose MEAN is the HEAD's: no best", x.much(2, 0, 3, 1), UnlikeDrawn.NONE);
    }

    private static void muchOfLikeOnes() {
        UnlikeDrawn x = Due.withHeads(Due.row(51), Due.row(50));
        x.knower(2, 1);
        due.is("51 from 10 on", x.much(0, 0, 2, 0), 10);
        due.is("56 with 60", x.much(0, 0, 2, 1), 60);
        x.set(0, 5);
        due.is("55 with 50 to 59", x.much(0, 0, 2, 1), 50);
        due.is("off by more than 5", x.much(0, 0, 2, 2), 60);
    }

    /** Without PART 0, or with PART 0 alone, the other one would be NAMED. */
    private static void muchWithAllParts() {
        UnlikeDrawn x = Due.withHeads(Due.row(50, 60), Due.row(60, 60), Due.row());
        x.knower(4, 3);
        due.is("the least by both PARTS", x.much(0, 1, 4, 0), 1);
        due.is("the best by both PARTS", x.much(0, 1, 4, 1), 60);
        x.place(0, 0, 60);
        x.place(0, 1, 50);
        due.is("the least by both PARTS again", x.much(0, 1, 4, 0), 1);
        x.place(2, 7, 0);
        x.set(0, 99);
        due.is("a MONSTER by PART 7 alone", x.much(0, 1, 4, 2), 20);
    }

    private static void muchRefusals() {
        UnlikeDrawn x = opposites();
        x.knower(3, 3);
        due.is("much(1, 0, 1, 0)", x.much(1, 0, 1, 0), UnlikeDrawn.BAD);
        due.is("much(-1, 0, 1, 2)", x.much(-1, 0, 1, 2), UnlikeDrawn.BAD);
        due.is("much(0, 3, 1, 0)", x.much(0, 3, 1, 0), UnlikeDrawn.BAD);
        due.is("much(0, -1, 1, 0)", x.much(0, -1, 1, 0), UnlikeDrawn.BAD);
        due.is("much(0, 0, 0, 0)", x.much(0, 0, 0, 0), UnlikeDrawn.BAD);
        due.is("much(0, 0, 8, 0)", x.much(0, 0, 8, 0), UnlikeDrawn.BAD);
        due.is("much(0, 0, 1, 3)", x.much(0, 0, 1, 3), UnlikeDrawn.BAD);
        due.is("much(0, 0, 1, -1)", x.much(0, 0, 1, -1), UnlikeDrawn.BAD);
        due.is("BAD ahead of NOT", x.much(0, 2, 0, 0), UnlikeDrawn.BAD);
        due.is("much(0, 2, 3, 0)", x.much(0, 2, 3, 0), UnlikeDrawn.NOT);
        due.is("much(0, 2, 3, 1)", x.much(0, 2, 3, 1), UnlikeDrawn.NOT);
        x.set(0, 9);
        due.is("a MONSTER whom one does not KNOW", x.much(0, 2, 3, 2), 10);
    }

    // promises 23 and 24
    private static void few() {
        UnlikeDrawn x = Due.withHeads(Due.row(60), Due.row(50, 60), Due.row(60, 60), Due.row(),
                Due.row(50, 50, 50, 50, 50, 40, 50, 70));
        x.knower(8, 23);
        due.is("0 by PART 0", x.few(0, 0, 8, 10), 1);
        due.is("0 by PART 0 alone", x.stands(0, 0, 8, 10), 1);
        due.is("1 by PART 1", x.few(0, 1, 8, 10), 2);
        due.is("1 by PART 1 alone", x.stands(0, 1, 8, 10), 2);
        due.is("2 by both", x.few(0, 2, 8, 10), 3);
        due.is("2 by none alone", x.stands(0, 2, 8, 10), 0);
        due.is("4 by PART 5", x.few(0, 4, 8, 10), 32);
        due.is("4 by PART 5 or 7", x.stands(0, 4, 8, 10), 160);
        due.is("with TENTHS 0", x.few(0, 4, 8, 0), UnlikeDrawn.NONE);
        due.is("by none with TENTHS 0", x.stands(0, 4, 8, 0), 0);
        due.is("with TENTHS 60, MONSTERS by PART 7", x.stands(0, 4, 8, 60), 32);
        x.set(0, 9);
        due.is("a MONSTER by each", x.few(0, 2, 8, 10), UnlikeDrawn.NONE);
        due.is("a MONSTER by each PART", x.stands(0, 2, 8, 10), 0);
        due.is("no MONSTER with 9", x.few(0, 2, 8, 9), 3);
        x.set(0, 19);
        due.is("a MONSTER by PART 7", x.stands(0, 4, 8, 10), 32);
    }

    /** By the MEAN of the SET it is drawn, by one's own it is known. */
    private static void fewOfOneWhoLeans() {
        UnlikeDrawn x = opposites();
        x.knower(2, 3);
        due.is("d 10 and h 20 by PART 0, TENTHS 0", x.few(0, 0, 3, 0), 1);
        due.is("each of both PARTS, TENTHS 0", x.stands(0, 0, 3, 0), 3);
        due.is("never 1: h is 0", x.few(0, 1, 3, 10), UnlikeDrawn.NONE);
    }

    /** Found by a search: without any one PART another HEAD is NAMED. */
    private static void fewIsAllParts() {
        UnlikeDrawn x = Due.withHeads(
                Due.row(29, 46, 67, 58, 74, 71, 39, 38), Due.row(10, 11, 64, 67, 51, 46, 52, 31),
                Due.row(9, 52, 75, 45, 91, 34, 39, 31), Due.row(26, 35, 64, 58, 64, 44, 39, 31),
                Due.row(30, 35, 61, 61, 80, 44, 40, 29), Due.row(26, 44, 63, 46, 48, 46, 39, 32),
                Due.row(23, 39, 55, 72, 59, 46, 39, 31), Due.row(26, 36, 64, 58, 64, 44, 39, 31));
        x.knower(188, 255);
        due.is("7 by all PARTS", x.few(0, 7, 178, 24), 255);
        due.is("7 by none alone", x.stands(0, 7, 178, 24), 0);
        x.knower(188, 128);
        due.is("7 by one who KNOWS nobody else", Integer.bitCount(x.few(1, 7, 178, 24)), 1);
    }

    private static void partsRefusals() {
        UnlikeDrawn x = opposites();
        x.knower(3, 3);
        int[][] bad = {
            {1, 0, 3, 10}, {-1, 0, 3, 10}, {0, 3, 3, 10}, {0, -1, 3, 10}, {0, 0, 0, 10}, {0, 0, 8, 10},
            {0, 0, -1, 10}, {0, 0, 3, 61}, {0, 0, 3, -1}, {0, 2, 3, 61},
        };
        for (int[] a : bad) {
            String told = "(" + a[0] + ", " + a[1] + ", " + a[2] + ", " + a[3] + ")";
            due.is("few" + told, x.few(a[0], a[1], a[2], a[3]), UnlikeDrawn.BAD);
            due.is("stands" + told, x.stands(a[0], a[1], a[2], a[3]), UnlikeDrawn.BAD);
        }
        due.is("few(0, 2, 3, 10)", x.few(0, 2, 3, 10), UnlikeDrawn.NOT);
        due.is("stands(0, 2, 3, 10)", x.stands(0, 2, 3, 10), UnlikeDrawn.NOT);
        due.is("few(0, 0, 3, 60)", x.few(0, 0, 3, 60), 1);
    }
}
