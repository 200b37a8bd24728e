/** Promises 17 to 24: a test for each boundary case of KNOWERS. */
final class KnowersEdgesTest {
    private static final Due due = new Due("edges of knowers");
    private static final int NONE = UnlikeDrawn.NONE;
    private static final int NOT = UnlikeDrawn.NOT;
    private static final int LEAST = Integer.MIN_VALUE;
    private static final int MOST = Integer.MAX_VALUE;

    public static void main(String[] args) {
        knowsNobody();
        knowsAHeadThatThereIsNot();
        knowsAHeadThatCameLater();
        grewUpByPlacesAsTheyWere();
        lookForNoTime();
        lookIsCutTowardsZero();
        lookAtTheLeastAndTheMost();
        lookAtNothing();
        lookWithLagAsItIsNow();
        leansTowardsTheMostAndTheLeast();
        leansStays();
        scoreOfASumAtZero();
        scoreOfNoDifference();
        scoreOfWhatIsLeftOut();
        scoreInLowestTerms();
        scoreAtTheMost();
        namedAtZeroAndJustAbove();
        namedOfLikeOnesIsTheLeast();
        namedOfAllHeads();
        namedAtRuin();
        marginIsOfWhatIsCut();
        marginWithoutOthers();
        marginOfNobody();
        muchFromZeroToSixty();
        muchOfNobody();
        muchMonsterAtItsEdges();
        muchBestOfLikeOnes();
        muchOfOneWhomOneDoesNotKnow();
        fewOfLikeOnesIsTheLeast();
        fewWithTenthsAtTheirEdges();
        fewOfMonsters();
        fewOfNone();
        standsOfNoneAndAll();
        standsOfEachPart();
        standsIsNoSum();
        due.end();
    }

    // promise 17; FullTest has the fifth
    private static void knowsNobody() {
        UnlikeDrawn x = Due.withHeads(Due.row(60));
        due.is("knower(1, 0)", x.knower(1, 0), 0);
        x.draw(0, 0, 1, 0);
        due.is("score", x.score(0, 0, 0, 0), Due.LONG_NOT);
        due.is("NAMED", x.named(0, 0, 0), NONE);
        due.is("MARGIN", x.named(0, 0, 1), NOT);
        due.is("MUCH", x.much(0, 0, 1, 0), NOT);
        due.is("FEW", x.few(0, 0, 1, 10), NOT);
        due.is("STANDS", x.stands(0, 0, 1, 10), NOT);
    }

    private static void knowsAHeadThatThereIsNot() {
        Refusal three = new Refusal(due, Scene.SOME.calls);
        int[] known = {8, 9, 15, 16, 128, 255, 256, 1 << 30, -1, -8, LEAST, LEAST + 1, MOST};
        for (int set : known) {
            three.is(Refusal.BAD, "knower", 1, set);
            three.is(Refusal.BAD, "knower", set, 1);
        }
        three.is(Refusal.BAD, "knower", 0, 0);
        three.is(Refusal.BAD, "knower", 0, 7);
    }

    private static void knowsAHeadThatCameLater() {
        UnlikeDrawn x = Due.withHeads(Due.row(60), Due.row());
        x.knower(2, 1);
        x.head();
        x.place(2, 0, 60);
        x.draw(0, 2, 2, 0);
        due.is("one who came later is not KNOWN", x.score(0, 0, 2, 0), Due.LONG_NOT);
        due.is("the one who is KNOWN is NAMED", x.named(0, 0, 0), 0);
    }

    private static void grewUpByPlacesAsTheyWere() {
        UnlikeDrawn x = Due.withHeads(Due.row(0, 99), Due.row(99, 99));
        x.knower(3, 0);
        x.place(0, 0, 99);
        x.place(0, 1, 0);
        due.is("99 by 2", x.leans(0, 0), 49);
        due.is("198 by 2", x.leans(0, 1), 99);
        due.is("as all are at first", x.leans(0, 7), 50);
    }

    // promise 18
    private static int leansBehind(int lag, int mean, int place, int minutes) {
        UnlikeDrawn x = Due.withHeads(Due.row(mean), Due.row(place));
        x.knower(1, 0);
        x.set(1, lag);
        x.draw(0, 1, 2, 0);
        due.is("look", x.look(0, 0, minutes), 1);
        return x.leans(0, 0);
    }

    private static void lookForNoTime() {
        due.is("0 by 1", leansBehind(1, 0, 99, 0), 0);
        due.is("0 by 60", leansBehind(60, 99, 0, 0), 99);
    }

    private static void lookIsCutTowardsZero() {
        due.is("60 times 1 by 61", leansBehind(60, 0, 60, 1), 0);
        due.is("61 times 1 by 61", leansBehind(60, 0, 61, 1), 1);
        due.is("-60 times 1 by 61", leansBehind(60, 60, 0, 1), 60);
        due.is("-61 times 1 by 61", leansBehind(60, 61, 0, 1), 60);
        due.is("1 times 1 by 2", leansBehind(1, 50, 51, 1), 50);
        due.is("-1 times 1 by 2", leansBehind(1, 51, 50, 1), 51);
        due.is("3 times 1 by 2", leansBehind(1, 50, 53, 1), 51);
        due.is("-3 times 1 by 2", leansBehind(1, 53, 50, 1), 52);
    }

    private static void lookAtTheLeastAndTheMost() {
        due.is("99 times 60 by 61", leansBehind(1, 0, 99, 60), 97);
        due.is("-99 times 60 by 61", leansBehind(1, 99, 0, 60), 2);
        due.is("99 times 60 by 120", leansBehind(60, 0, 99, 60), 49);
        due.is("-99 times 60 by 120", leansBehind(60, 99, 0, 60), 50);
        due.is("99 times 1 by 2", leansBehind(1, 0, 99, 1), 49);
        due.is("61 times 60 by 61", leansBehind(1, 0, 61, 60), 60);
        due.is("0 times 60 by 61", leansBehind(1, 7, 7, 60), 7);
    }

    private static void lookAtNothing() {
        UnlikeDrawn x = Due.withHeads(Due.row(10, 20), Due.row(90, 90));
        x.knower(1, 0);
        Due.write(x, 0, "*x");
        Due.write(x, 1, "*x;7+10");
        x.place(1, 7, 90);
        x.draw(0, 1, 2, 0);
        x.draw(1, 1, 2, 0);
        due.is("look at what has no PART", x.look(0, 0, 60), 1);
        due.is("PART 0", x.leans(0, 0), 10);
        due.is("PART 7", x.leans(0, 7), 50);
        due.is("look at what has PART 7", x.look(0, 1, 10), 1);
        due.is("PART 0 again", x.leans(0, 0), 10);
        due.is("PART 1", x.leans(0, 1), 20);
        due.is("50 and 40 times 10 by 20", x.leans(0, 7), 70);
    }

    private static void lookWithLagAsItIsNow() {
        UnlikeDrawn x = Due.withHeads(Due.row(0), Due.row(96));
        x.knower(1, 0);
        x.draw(0, 1, 2, 0);
        x.look(0, 0, 10);
        due.is("96 times 10 by 20", x.leans(0, 0), 48);
        x.set(1, 30);
        due.is("it stays", x.leans(0, 0), 48);
        x.look(0, 0, 10);
        due.is("48 and 48 times 10 by 40", x.leans(0, 0), 60);
    }

    // promise 19
    private static void leansTowardsTheMostAndTheLeast() {
        UnlikeDrawn x = Due.withHeads(Due.row(99), Due.row(0));
        Due.write(x, 0, "*+60");
        Due.write(x, 1, "*-60");
        x.draw(0, 0, 3, 0);
        x.copied(0, 0, 0);
        x.copied(0, 1, 0);
        x.copied(1, 1, 0);
        x.set(1, 1);
        x.knower(2, 0);
        x.knower(2, 0);
        x.look(0, 2, 60);
        x.look(1, 3, 60);
        due.is("7000 times 60 by 61", x.leans(0, 0), 6885);
        due.is("-7000 times 60 by 61", x.leans(1, 0), -6885);
        x.look(0, 3, 60);
        due.is("6885 and -13885 times 60 by 61", x.leans(0, 0), -6772);
        for (int i = 0; i < 10; i++) {
            x.look(0, 2, 60);
            x.look(1, 3, 60);
        }
        due.is("nearer it does not come", x.leans(0, 0), 6999);
        due.is("nearer it does not come, below", x.leans(1, 0), -6999);
    }

    private static void leansStays() {
        UnlikeDrawn x = Due.withHeads(Due.row(10), Due.row(30));
        x.knower(1, 0);
        x.knower(1, 0);
        x.draw(0, 1, 2, 0);
        x.look(0, 0, 10);
        x.place(0, 0, 99);
        x.place(1, 0, 99);
        x.set(1, 60);
        due.is("the one who looked", x.leans(0, 0), 20);
        due.is("the one who did not", x.leans(1, 0), 10);
    }

    // promise 20
    private static void scoreIs(String call, UnlikeDrawn x, int drawing, int head, long above, long below) {
        due.is(call + ", above", x.score(0, drawing, head, 0), above);
        due.is(call + ", below", x.score(0, drawing, head, 1), below);
    }

    /** A KNOWER whose MEAN is 50 in all PARTS, who KNOWS the HEADS told; HEAD 0 is the one at 50. */
    private static UnlikeDrawn known(int[]... heads) {
        UnlikeDrawn x = Due.withHeads(Due.row());
        for (int[] places : heads) {
            Calls.of(x).head(places);
        }
        x.knower(1, (2 << heads.length) - 1);
        return x;
    }

    private static void drawnAs(UnlikeDrawn x, int... places) {
        int[] were = new int[places.length];
        for (int part = 0; part < places.length; part++) {
            were[part] = x.place(0, part, places[part]);
        }
        x.draw(3, 0, 1, 0);
        for (int part = 0; part < places.length; part++) {
            x.place(0, part, were[part]);
        }
    }

    private static void scoreOfASumAtZero() {
        UnlikeDrawn x = known(Due.row(51, 51));
        drawnAs(x, 51, 49);
        drawnAs(x, 51, 48);
        drawnAs(x, 52, 49);
        drawnAs(x, 50, 50);
        scoreIs("a sum of 0", x, 0, 1, 0, 1);
        scoreIs("a sum of -1", x, 1, 1, 0, 1);
        scoreIs("a sum of 1", x, 2, 1, 1, 2);
        scoreIs("nothing is off", x, 3, 1, 0, 1);
    }

    private static void scoreOfNoDifference() {
        UnlikeDrawn x = known(Due.row(60));
        drawnAs(x, 99, 99);
        scoreIs("a HEAD at one's MEAN", x, 0, 0, 0, 1);
    }

    private static void scoreOfWhatIsLeftOut() {
        UnlikeDrawn x = known(Due.row(60, 90));
        Due.write(x, 3, "1x");
        drawnAs(x, 60, 0);
        scoreIs("without PART 1", x, 0, 1, 100, 1);
        Due.write(x, 3, "0x");
        drawnAs(x, 60, 51);
        scoreIs("without PART 0", x, 1, 1, 1, 1);
        Due.write(x, 3, "*x");
        drawnAs(x, 60, 51);
        scoreIs("without any", x, 2, 1, 0, 1);
        Due.write(x, 3, "0x;1x");
        drawnAs(x, 99, 99, 99);
        scoreIs("without those by which it differs", x, 3, 1, 0, 1);
    }

    private static void scoreInLowestTerms() {
        UnlikeDrawn x = known(Due.row(52, 54), Due.row(51, 52), Due.row(53));
        drawnAs(x, 51, 51);
        scoreIs("36 by 20", x, 0, 1, 9, 5);
        scoreIs("9 by 5", x, 0, 2, 9, 5);
        scoreIs("9 by 9", x, 0, 3, 1, 1);
    }

    private static void scoreAtTheMost() {
        int[] most = {99, 99, 99, 99, 99, 99, 99, 99};
        UnlikeDrawn x = Due.withHeads(most, new int[8]);
        Due.write(x, 0, "*+60");
        Due.write(x, 1, "*-60");
        x.draw(0, 0, 3, 0);
        x.copied(0, 0, 0);
        x.copied(0, 1, 0);
        x.copied(1, 1, 0);
        x.set(1, 1);
        x.knower(3, 3);
        for (int i = 0; i < 10; i++) {
            x.look(0, 3, 60);
        }
        due.is("one's MEAN", x.leans(0, 7), -6999);
        scoreIs("8 times 13999 times itself", x, 2, 0, 8L * 13999 * 13999, 1);
        x.place(0, 0, 98);
        long along = 13999L * (7097 + 7 * 7098);
        long square = 7097L * 7097 + 7L * 7098 * 7098;
        long common = java.math.BigInteger.valueOf(along * along).gcd(java.math.BigInteger.valueOf(square)).longValue();
        scoreIs("with one PART less by 1", x, 2, 0, along * along / common, square / common);
    }

    // promise 21
    private static void namedAtZeroAndJustAbove() {
        UnlikeDrawn x = known(Due.row(51, 99));
        drawnAs(x, 50, 50);
        drawnAs(x, 51, 50);
        drawnAs(x, 49, 50);
        due.is("a SCORE of 0", x.named(0, 0, 0), NONE);
        due.is("a SCORE of 1 by 2402", x.named(0, 1, 0), 1);
        due.is("its MARGIN, cut", x.named(0, 1, 1), 0);
        due.is("a sum below 0", x.named(0, 2, 0), NONE);
    }

    private static void namedOfLikeOnesIsTheLeast() {
        UnlikeDrawn x = known(Due.row(52), Due.row(51), Due.row(99));
        drawnAs(x, 53);
        scoreIs("36 by 4", x, 0, 1, 9, 1);
        scoreIs("9 by 1", x, 0, 2, 9, 1);
        due.is("of like ones the least", x.named(0, 0, 0), 1);
        due.is("MARGIN of like ones", x.named(0, 0, 1), 0);
        UnlikeDrawn y = known(Due.row(51, 50), Due.row(99), Due.row(51));
        drawnAs(y, 53);
        due.is("turned", y.named(0, 0, 0), 1);
        drawnAs(y, 53, 51);
        due.is("of three like ones the least", y.named(0, 1, 0), 1);
        y.place(3, 0, 53);
        y.place(3, 1, 51);
        due.is("the last by 1: 100 by 10 and 9", y.named(0, 1, 0), 3);
        y.place(1, 0, 56);
        y.place(1, 1, 52);
        due.is("the first is alike: 400 by 40", y.named(0, 1, 0), 1);
    }

    private static void namedOfAllHeads() {
        UnlikeDrawn x = new UnlikeDrawn();
        for (int head = 0; head < 8; head++) {
            x.head();
            x.place(head, head, 90);
        }
        x.knower(255, 255);
        for (int head = 0; head < 8; head++) {
            x.draw(0, head, 255, 0);
            due.is("NAMED of " + head, x.named(0, head, 0), head);
        }
    }

    private static void namedAtRuin() {
        UnlikeDrawn x = Due.withHeads(Due.row(80), Due.row(20));
        x.knower(3, 3);
        x.draw(0, 0, 3, 0);
        x.set(0, 30);
        due.is("off by RUIN", x.named(0, 0, 0), 0);
        due.is("MARGIN", x.named(0, 0, 1), 900);
        x.set(0, 29);
        due.is("a MONSTER", x.named(0, 0, 0), NONE);
        due.is("MARGIN of a MONSTER", x.named(0, 0, 1), NOT);
        due.is("its SCORE", x.score(0, 0, 0, 0), 900);
    }

    /** Each SCORE is cut by itself: 9 and 9 by 5, cut, less 1 and 9 by 10, cut. */
    private static void marginIsOfWhatIsCut() {
        UnlikeDrawn x = known(Due.row(51, 52), Due.row(50, 53));
        drawnAs(x, 51, 51);
        scoreIs("the one", x, 0, 1, 9, 5);
        scoreIs("the other", x, 0, 2, 1, 1);
        due.is("1 less 1", x.named(0, 0, 1), 0);
        drawnAs(x, 51, 53);
        scoreIs("the one, again", x, 1, 1, 49, 5);
        scoreIs("the other, again", x, 1, 2, 9, 1);
        due.is("9 less 9", x.named(0, 1, 1), 0);
        drawnAs(x, 52, 53);
        scoreIs("the one, once more", x, 2, 1, 64, 5);
        due.is("12 less 9", x.named(0, 2, 1), 3);
    }

    private static void marginWithoutOthers() {
        UnlikeDrawn x = Due.withHeads(Due.row(60), Due.row(60), Due.row());
        x.knower(4, 1);
        x.draw(0, 0, 4, 0);
        due.is("nobody else is KNOWN", x.named(0, 0, 1), 100);
        x.knower(4, 5);
        due.is("the other has 0", x.named(1, 0, 1), 100);
        x.knower(4, 3);
        due.is("the other is alike", x.named(2, 0, 1), 0);
    }

    private static void marginOfNobody() {
        UnlikeDrawn x = Due.withHeads(Due.row(60), Due.row(60));
        x.knower(1, 3);
        x.draw(0, 0, 1, 0);
        due.is("NAMED", x.named(0, 0, 0), NONE);
        due.is("MARGIN", x.named(0, 0, 1), NOT);
        due.is("count(8)", x.count(8), 0);
    }

    // promise 22
    private static void muchFromZeroToSixty() {
        // one's MEAN is 50, the SET's 40: with 0 it is drawn at 40
        UnlikeDrawn x = Due.withHeads(Due.row(41), Due.row(40), Due.row(50));
        x.knower(4, 1);
        due.is("the least is 0: 40 is on the same side as 41", x.much(0, 0, 2, 0), 0);
        due.is("the best is 0: with 10 it comes nearer to 50", x.much(0, 0, 2, 1), 0);
        UnlikeDrawn y = Due.withHeads(Due.row(51), Due.row(50));
        y.knower(2, 1);
        due.is("the least is 10", y.much(0, 0, 2, 0), 10);
        due.is("the best is 60", y.much(0, 0, 2, 1), 60);
    }

    private static void muchOfNobody() {
        UnlikeDrawn x = Due.withHeads(Due.row(60), Due.row(40), Due.row());
        x.knower(4, 7);
        due.is("a HEAD at one's MEAN", x.much(0, 2, 4, 0), NONE);
        due.is("the best of none", x.much(0, 2, 4, 1), NONE);
        due.is("no MONSTER", x.much(0, 2, 4, 2), NONE);
        due.is("a HEAD beside one that is alike and less", likeOne().much(0, 2, 1, 0), NONE);
        due.is("its best", likeOne().much(0, 2, 1, 1), NONE);
        due.is("the lesser one", likeOne().much(0, 1, 1, 0), 1);
    }

    private static UnlikeDrawn likeOne() {
        return known(Due.row(60), Due.row(60));
    }

    private static void muchMonsterAtItsEdges() {
        UnlikeDrawn x = Due.withHeads(Due.row(60), Due.row(40), Due.row(51, 50), Due.row());
        x.knower(8, 1);
        due.is("10 times 60 by 10 is RUIN", x.much(0, 0, 8, 2), NONE);
        x.set(0, 59);
        due.is("with 60 alone", x.much(0, 0, 8, 2), 60);
        due.is("with 60 alone, below", x.much(0, 1, 8, 2), 60);
        due.is("the best is the one ahead", x.much(0, 0, 8, 1), 59);
        x.set(0, 1);
        due.is("off by 2", x.much(0, 0, 8, 2), 2);
        due.is("off by 1 is none", x.much(0, 0, 8, 1), 1);
        due.is("1 times 20 by 10", x.much(0, 2, 8, 2), 20);
    }

    private static void muchBestOfLikeOnes() {
        UnlikeDrawn x = Due.withHeads(Due.row(51), Due.row(50));
        x.knower(2, 1);
        x.set(0, 5);
        due.is("55 with 50 to 59: the least", x.much(0, 0, 2, 1), 50);
        x.set(0, 1);
        due.is("51 with 10 to 19: the least", x.much(0, 0, 2, 1), 10);
        // one's MEAN is 51 and 45: 1 has always 16; of the other is left, cut, 18, 11, 5, 2, 0, 0 with 7 to 12
        UnlikeDrawn y = Due.withHeads(Due.row(55, 46), Due.row(47, 45), Due.row(47, 55));
        y.knower(3, 7);
        y.set(0, 99);
        due.is("from 8 on", y.much(0, 1, 4, 0), 8);
        due.is("16 with 11 to 60: the least", y.much(0, 1, 4, 1), 11);
        due.is("the other one up to 7", y.much(0, 2, 4, 1), 0);
    }

    private static void muchOfOneWhomOneDoesNotKnow() {
        UnlikeDrawn x = Due.withHeads(Due.row(99), Due.row(0));
        x.knower(2, 0);
        due.is("the least", x.much(0, 0, 2, 0), NOT);
        due.is("the best", x.much(0, 0, 2, 1), NOT);
        due.is("the least MONSTER is told", x.much(0, 0, 2, 2), 7);
        x.set(0, 99);
        due.is("99 times 10 by 10 is no MONSTER", x.much(0, 0, 2, 2), 11);
    }

    // promise 23
    private static void fewOfLikeOnesIsTheLeast() {
        UnlikeDrawn x = known(Due.row(60, 60, 60), Due.row(60), Due.row(50, 60), Due.row(50, 50, 60));
        due.is("each is enough for 1, who is less", x.few(0, 1, 1, 10), 1);
        due.is("2 by PART 0 and another by which 1 is not alike", x.few(0, 2, 1, 10), 3);
        UnlikeDrawn y = known(Due.row(60), Due.row(50, 60), Due.row(50, 50, 60), Due.row(60, 60, 60));
        due.is("two of three PARTS, the least as bits", y.few(0, 4, 1, 10), 3);
        y.place(4, 0, 50);
        due.is("PARTS 1 and 2", y.few(0, 4, 1, 10), 6);
        UnlikeDrawn z = known(Due.row(50, 50, 50, 50, 50, 50, 60, 60));
        due.is("PART 6, not 7", z.few(0, 1, 1, 10), 64);
    }

    private static void fewWithTenthsAtTheirEdges() {
        UnlikeDrawn x = known(Due.row(60), Due.row(40));
        due.is("with 0", x.few(0, 1, 1, 0), NONE);
        due.is("with 1", x.few(0, 1, 1, 1), 1);
        due.is("with 60, off by RUIN", x.few(0, 1, 1, 60), 1);
        x.place(1, 0, 61);
        due.is("with 60, off by more", x.few(0, 1, 1, 60), NONE);
        due.is("with 55, off by 60 and a half, cut", x.few(0, 1, 1, 55), 1);
        UnlikeDrawn leaning = Due.withHeads(Due.row(41), Due.row(40), Due.row(50));
        leaning.knower(4, 1);
        due.is("with 0 by one who leans", leaning.few(0, 0, 2, 0), 1);
    }

    private static void fewOfMonsters() {
        UnlikeDrawn x = known(Due.row(90, 60));
        x.set(0, 39);
        due.is("PART 0 would be a MONSTER", x.few(0, 1, 1, 10), 2);
        x.set(0, 40);
        due.is("PART 0 is none", x.few(0, 1, 1, 10), 1);
        x.set(0, 9);
        due.is("each would be one", x.few(0, 1, 1, 10), NONE);
    }

    private static void fewOfNone() {
        UnlikeDrawn x = known(Due.row(60), Due.row(60, 60));
        due.is("a HEAD at one's MEAN", x.few(0, 0, 1, 10), NONE);
        x.place(2, 1, 50);
        due.is("one alike and greater", x.few(0, 2, 1, 60), NONE);
        due.is("one alike and less", x.few(0, 1, 1, 60), 1);
    }

    // promise 24
    private static void standsOfNoneAndAll() {
        UnlikeDrawn x = known(Due.row(60, 40, 60, 40, 60, 40, 60, 40));
        due.is("all", x.stands(0, 1, 1, 10), 255);
        due.is("with 0 none", x.stands(0, 1, 1, 0), 0);
        due.is("with 1 all", x.stands(0, 1, 1, 1), 255);
        due.is("with 60 all, off by RUIN", x.stands(0, 1, 1, 60), 255);
        x.set(0, 59);
        due.is("with 60 none", x.stands(0, 1, 1, 60), 0);
        due.is("a HEAD at one's MEAN", x.stands(0, 0, 1, 10), 0);
    }

    private static void standsOfEachPart() {
        for (int part = 0; part < 8; part++) {
            UnlikeDrawn x = known(Due.row());
            x.place(1, part, 99);
            due.is("PART " + part, x.stands(0, 1, 1, 10), 1 << part);
            due.is("FEW", x.few(0, 1, 1, 10), 1 << part);
        }
    }

    /** Those that are enough together are not told. */
    private static void standsIsNoSum() {
        UnlikeDrawn x = known(Due.row(60), Due.row(50, 60), Due.row(60, 60));
        due.is("none by itself", x.stands(0, 3, 1, 10), 0);
        due.is("both together", x.few(0, 3, 1, 10), 3);
    }
}
