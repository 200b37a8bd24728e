/** Promises 12 to 16: a test for each boundary case of DRAWINGS. */
final class DrawingsEdgesTest {
    private static final Due due = new Due("edges of drawings");
    private static final int NONE = UnlikeDrawn.NONE;
    private static final int BAD = UnlikeDrawn.BAD;

    public static void main(String[] args) {
        theFirstYearMayBeAny();
        aYearIsNotLessThanTheOneAhead();
        aRefusedOneHasNoYear();
        aCopyIsTheOneAheadToo();
        copiedFromItselfOrALaterOne();
        whatIsLeftOutIsLeftOut();
        copiedOverTheSameMean();
        copiedWithAHandAsItIsNow();
        drawnJustUnderTheMost();
        drawnJustAboveTheLeast();
        copiedFromTheMostAndTheLeast();
        linesStay();
        lineOfAllLeftOut();
        kindCopiedIsAheadOfAll();
        kindPartialIsAheadOfTrueAndOpposite();
        kindTrueIsAheadOfOpposite();
        kindTrueByWhatIsCut();
        kindOppositeIsAheadOfExceeded();
        kindOppositeByLessThanATenth();
        kindOfZero();
        kindStays();
        monsterAtRuinOnBothSides();
        monsterByEachPart();
        monsterOverTheMeanItWasDrawnOver();
        noMonsterByWhatIsLeftOut();
        fromWithNoneAhead();
        fromOfAnotherHeadAlone();
        fromOfLikeOnesIsTheFirst();
        fromIsNoLaterOne();
        fromOfACopy();
        agesOfNoneOneAndAll();
        agesJumpOverOthers();
        whoseOfLikeHandsIsTheLeast();
        whoseIsEachHand();
        whoseWithOddAtItsEdges();
        whoseOfACopy();
        copiedFromNone();
        unlikeItself();
        unlikeWithoutParts();
        unlikeAtTheMost();
        due.end();
    }

    // promise 12; FullTest has the thirty-first
    private static void theFirstYearMayBeAny() {
        int[] years = {0, 1, 98, 99};
        for (int year : years) {
            UnlikeDrawn x = Due.withHeads(Due.row());
            due.is("draw in " + year, x.draw(0, 0, 1, year), 0);
            due.is("YEAR", x.about(0, 1), year);
        }
        Refusal refusal = new Refusal(due, calls -> calls.head());
        refusal.is(Refusal.BAD, "draw", 0, 0, 1, -1);
        refusal.is(Refusal.BAD, "draw", 0, 0, 1, 100);
    }

    private static void aYearIsNotLessThanTheOneAhead() {
        UnlikeDrawn x = Due.withHeads(Due.row(), Due.row());
        due.is("50", x.draw(0, 0, 1, 50), 0);
        due.is("49", x.draw(0, 0, 1, 49), BAD);
        due.is("49 of another HEAD", x.draw(0, 1, 1, 49), BAD);
        due.is("50 again", x.draw(0, 1, 1, 50), 1);
        due.is("99", x.draw(0, 1, 1, 99), 2);
        due.is("98", x.draw(0, 0, 1, 98), BAD);
        due.is("99 again", x.draw(0, 0, 1, 99), 3);
        due.is("0", x.draw(0, 0, 1, 0), BAD);
        due.is("count(1)", x.count(1), 4);
    }

    private static void aRefusedOneHasNoYear() {
        UnlikeDrawn x = Due.withHeads(Due.row());
        due.is("a HAND that there is not", x.draw(4, 0, 1, 99), BAD);
        due.is("a HEAD that there is not", x.draw(0, 1, 1, 99), BAD);
        due.is("a SET with nobody", x.draw(0, 0, 0, 99), BAD);
        due.is("a DRAWING that there is not", x.copied(0, 0, 99), BAD);
        due.is("0 behind these", x.draw(0, 0, 1, 0), 0);
        due.is("a copy in 100", x.copied(0, 0, 100), BAD);
        due.is("0 behind it", x.copied(0, 0, 0), 1);
    }

    // promise 13
    private static void aCopyIsTheOneAheadToo() {
        UnlikeDrawn x = Due.withHeads(Due.row());
        x.draw(0, 0, 1, 5);
        due.is("a copy in 4", x.copied(0, 0, 4), BAD);
        due.is("a copy in 5", x.copied(0, 0, 5), 1);
        due.is("a copy in 99", x.copied(0, 0, 99), 2);
        due.is("draw in 98", x.draw(0, 0, 1, 98), BAD);
        due.is("a copy in 98", x.copied(0, 0, 98), BAD);
        due.is("draw in 99", x.draw(0, 0, 1, 99), 3);
    }

    private static void copiedFromItselfOrALaterOne() {
        Refusal refusal = new Refusal(due, Scene.SOME.calls);
        refusal.is(Refusal.BAD, "copied", 0, 3, 30);
        refusal.is(Refusal.BAD, "copied", 0, 4, 30);
        refusal.is(Refusal.BAD, "copied", 0, 29, 30);
        refusal.is(Refusal.BAD, "copied", 0, 30, 30);
    }

    private static void whatIsLeftOutIsLeftOut() {
        UnlikeDrawn x = Due.withHeads(Due.row(60), Due.row(40));
        Due.write(x, 0, "*x;1+10");
        Due.write(x, 1, "*+60");
        x.draw(0, 0, 3, 0);
        due.is("a copy by a HAND that has all", x.copied(1, 0, 0), 1);
        due.is("what was left out", x.line(1, 0), Due.ANY_NONE);
        due.is("what was not", x.line(1, 1), 50);
        due.is("a copy of the copy", x.copied(2, 1, 0), 2);
        due.is("left out still", x.line(2, 7), Due.ANY_NONE);
        Due.write(x, 1, "1x");
        due.is("a copy by a HAND that leaves out the last", x.copied(1, 2, 0), 3);
        for (int part = 0; part < 8; part++) {
            due.is("nothing is left", x.line(3, part), Due.ANY_NONE);
        }
    }

    private static void copiedOverTheSameMean() {
        UnlikeDrawn x = Due.withHeads(Due.row(60), Due.row(40));
        x.draw(0, 0, 3, 0);
        x.place(0, 0, 0);
        x.place(1, 0, 99);
        Due.write(x, 1, "0-30");
        x.copied(1, 0, 0);
        due.is("50 and 10 times -30 by 10", x.line(1, 0), 20);
        x.copied(1, 1, 0);
        due.is("50 and -30 times -30 by 10", x.line(2, 0), 140);
    }

    private static void copiedWithAHandAsItIsNow() {
        UnlikeDrawn x = Due.withHeads(Due.row(60), Due.row(40));
        Due.write(x, 0, "0+20");
        x.draw(0, 0, 3, 0);
        x.type(0, ';');
        x.copied(0, 0, 0);
        due.is("a HAND with a FAULT copies as it is", x.line(1, 0), 70);
    }

    /** A line of HEAD 0 (75 over 50), drawn with the first TENTHS and copied by each of the others. */
    private static int chain(UnlikeDrawn x, int... tenths) {
        for (int i = 0; i < tenths.length; i++) {
            Due.write(x, 0, (tenths[i] < 0 ? "0-" : "0+") + Math.abs(tenths[i]));
            if (i == 0) {
                x.draw(0, 0, 3, 0);
            } else {
                x.copied(0, x.count(1) - 1, 0);
            }
        }
        return x.line(x.count(1) - 1, 0);
    }

    private static UnlikeDrawn offBy25() {
        return Due.withHeads(Due.row(75), Due.row(25));
    }

    // promises 13 and 14: 7000 and -7000 hold for the whole, the MEAN (50) and what is added
    private static void drawnJustUnderTheMost() {
        due.is("50 less 6949", chain(offBy25(), -60, -54, -39, 22), -6899);
        due.is("50 and 6949", chain(offBy25(), -60, -54, -39, -22), 6999);
        due.is("50 and 6950", chain(offBy25(), -59, -58, -34, -24), 7000);
        due.is("50 and 6951", chain(offBy25(), -60, -58, -47, -17), 7000);
    }

    private static void drawnJustAboveTheLeast() {
        due.is("50 less 7049", chain(offBy25(), -59, -36, -43, 31), -6999);
        due.is("50 less 7050", chain(offBy25(), -60, -55, -15, 57), -7000);
        due.is("50 less 7051", chain(offBy25(), -60, -57, -15, 55), -7000);
    }

    private static void copiedFromTheMostAndTheLeast() {
        UnlikeDrawn x = offBy25();
        due.is("7000", chain(x, 60, 60, 60, 60), 7000);
        int most = x.count(1) - 1;
        String[] texts = {"", "0+60", "0-60", "0+0", "0+1", "0-1", "0-10"};
        int[] want = {7000, 7000, -7000, 50, 745, -645, -6900};
        for (int i = 0; i < texts.length; i++) {
            Due.write(x, 1, texts[i]);
            x.copied(1, most, 0);
            due.is("7000 by '" + texts[i] + "'", x.line(x.count(1) - 1, 0), want[i]);
        }
        due.is("-7000", chain(x, 60, 60, 60, -60), -7000);
        int least = x.count(1) - 1;
        int[] below = {-7000, -7000, 7000, 50, -655, 755, 7000};
        for (int i = 0; i < texts.length; i++) {
            Due.write(x, 1, texts[i]);
            x.copied(1, least, 0);
            due.is("-7000 by '" + texts[i] + "'", x.line(x.count(1) - 1, 0), below[i]);
        }
    }

    // promise 14
    private static void linesStay() {
        UnlikeDrawn x = Due.withHeads(Due.row(60), Due.row(40));
        Due.write(x, 0, "0+20;7x");
        x.draw(0, 0, 3, 3);
        x.place(0, 0, 99);
        x.place(1, 0, 0);
        x.wipe(0);
        x.head();
        x.set(0, 1);
        x.copied(0, 0, 3);
        due.is("line(0, 0)", x.line(0, 0), 70);
        due.is("line(0, 7)", x.line(0, 7), Due.ANY_NONE);
        due.is("HEAD", x.about(0, 0), 0);
        due.is("YEAR", x.about(0, 1), 3);
    }

    private static void lineOfAllLeftOut() {
        UnlikeDrawn x = Due.withHeads(Due.row());
        Due.write(x, 0, "*x");
        due.is("draw of nothing", x.draw(0, 0, 1, 0), 0);
        for (int part = 0; part < 8; part++) {
            due.is("line(0, " + part + ")", x.line(0, part), Due.ANY_NONE);
        }
        due.is("no MONSTER", x.about(0, 3), 0);
    }

    // promise 15: KIND
    private static void kindIs(String text, int want) {
        // the MEAN of PART 0 is 55, of PART 1 45, of all others 50; PART 2 is at its MEAN
        UnlikeDrawn x = Due.withHeads(Due.row(60, 40), Due.row(50, 50));
        Due.write(x, 0, text);
        x.draw(0, 0, 3, 0);
        due.is("KIND by '" + text + "'", x.about(0, 2), want);
    }

    private static void kindCopiedIsAheadOfAll() {
        String[] texts = {"", "7x", "*x", "0-10", "0+20"};
        for (String text : texts) {
            UnlikeDrawn x = Due.withHeads(Due.row(60, 40), Due.row(50, 50));
            Due.write(x, 0, text);
            x.draw(0, 0, 3, 0);
            x.copied(0, 0, 0);
            x.copied(1, 0, 0);
            due.is("a copy by '" + text + "'", x.about(1, 2), 4);
            due.is("a true copy of '" + text + "'", x.about(2, 2), 4);
        }
    }

    private static void kindPartialIsAheadOfTrueAndOpposite() {
        kindIs("0x", 3);
        kindIs("7x", 3);
        kindIs("0-10;7x", 3);
        kindIs("7x;0-10", 3);
        kindIs("0+20;1x", 3);
        kindIs("*x", 3);
        kindIs("7x;7+10", 0);
    }

    private static void kindTrueIsAheadOfOpposite() {
        kindIs("", 0);
        kindIs("*+10", 0);
        kindIs("2-60", 0);
        kindIs("2+0;3-0;4+60;5-1;6-10;7+9", 0);
        UnlikeDrawn x = Due.withHeads(Due.row(60, 40));
        Due.write(x, 0, "*-60");
        x.draw(0, 0, 1, 0);
        due.is("over its own MEAN", x.about(0, 2), 0);
    }

    private static void kindTrueByWhatIsCut() {
        kindIs("0+11", 0);
        kindIs("1+11", 0);
        kindIs("0+12", 1);
        kindIs("1+12", 1);
        kindIs("0+9", 1);
        kindIs("1+9", 1);
    }

    private static void kindOppositeIsAheadOfExceeded() {
        kindIs("0-10", 2);
        kindIs("1-10", 2);
        kindIs("0+60;1-60", 2);
        kindIs("0+20;2-60", 1);
        kindIs("*-60", 2);
    }

    /** 'had TENTHS below 0': though what is drawn is the MEAN. */
    private static void kindOppositeByLessThanATenth() {
        kindIs("0-1", 2);
        kindIs("1-1", 2);
    }

    private static void kindOfZero() {
        kindIs("0+0", 1);
        kindIs("0-0", 1);
        kindIs("*-0", 1);
    }

    private static void kindStays() {
        UnlikeDrawn x = Due.withHeads(Due.row(60, 40), Due.row(50, 50));
        x.draw(0, 0, 3, 0);
        Due.write(x, 0, "*-10");
        x.draw(0, 0, 3, 0);
        x.place(0, 0, 0);
        x.place(0, 1, 50);
        x.wipe(0);
        due.is("TRUE stays", x.about(0, 2), 0);
        due.is("OPPOSITE stays", x.about(1, 2), 2);
    }

    // promise 15: MONSTER
    private static void monsterAtRuinOnBothSides() {
        UnlikeDrawn x = Due.withHeads(Due.row(80), Due.row(20));
        x.draw(0, 0, 3, 0);
        x.draw(0, 1, 3, 0);
        x.set(0, 30);
        due.is("off by 30 with RUIN 30", x.about(0, 3), 0);
        due.is("off by -30 with RUIN 30", x.about(1, 3), 0);
        due.is("MONSTERS with RUIN 30", x.count(7), 0);
        x.set(0, 29);
        due.is("off by 30 with RUIN 29", x.about(0, 3), 1);
        due.is("off by -30 with RUIN 29", x.about(1, 3), 1);
        due.is("MONSTERS with RUIN 29", x.count(7), 2);
        x.set(0, 31);
        due.is("off by 30 with RUIN 31", x.about(0, 3), 0);
    }

    private static void monsterByEachPart() {
        for (int part = 0; part < 8; part++) {
            UnlikeDrawn x = Due.withHeads(Due.row(), Due.row());
            x.place(0, part, 72);
            x.draw(0, 0, 3, 0);
            x.set(0, 11);
            due.is("PART " + part + " off by 11 with RUIN 11", x.about(0, 3), 0);
            x.set(0, 10);
            due.is("PART " + part + " off by 11 with RUIN 10", x.about(0, 3), 1);
        }
    }

    private static void monsterOverTheMeanItWasDrawnOver() {
        UnlikeDrawn x = Due.withHeads(Due.row(80), Due.row(20));
        x.draw(0, 0, 3, 0);
        x.place(0, 0, 0);
        x.place(1, 0, 0);
        due.is("off 50 by 30", x.about(0, 3), 0);
        x.copied(0, 0, 0);
        due.is("a copy off 50 by 30", x.about(1, 3), 0);
    }

    private static void noMonsterByWhatIsLeftOut() {
        UnlikeDrawn x = Due.withHeads(Due.row(99), Due.row(0));
        Due.write(x, 0, "0x");
        x.set(0, 1);
        x.draw(1, 0, 3, 0);
        x.draw(0, 0, 3, 0);
        x.copied(0, 0, 0);
        due.is("off by 50", x.about(0, 3), 1);
        due.is("left out", x.about(1, 3), 0);
        due.is("left out of a copy", x.about(2, 3), 0);
        due.is("MONSTERS", x.count(7), 1);
    }

    // promise 15: FROM and AGES
    private static UnlikeDrawn drawnAt(int... places) {
        UnlikeDrawn x = Due.withHeads(Due.row(), Due.row());
        for (int place : places) {
            x.place(0, 0, place);
            x.draw(0, 0, 2, 0);
        }
        return x;
    }

    private static void fromWithNoneAhead() {
        UnlikeDrawn x = drawnAt(50);
        due.is("FROM", x.about(0, 4), NONE);
        due.is("AGES", x.about(0, 5), 0);
    }

    private static void fromOfAnotherHeadAlone() {
        UnlikeDrawn x = Due.withHeads(Due.row(), Due.row());
        x.draw(0, 0, 1, 0);
        x.draw(0, 1, 1, 0);
        due.is("FROM of one like that of another HEAD", x.about(1, 4), NONE);
        due.is("AGES", x.about(1, 5), 0);
        x.draw(0, 0, 1, 0);
        due.is("FROM over another HEAD's", x.about(2, 4), 0);
    }

    private static void fromOfLikeOnesIsTheFirst() {
        due.is("three alike", drawnAt(50, 50, 50).about(2, 4), 0);
        due.is("10 on both sides", drawnAt(40, 60, 50).about(2, 4), 0);
        due.is("10 on both sides, turned", drawnAt(60, 40, 50).about(2, 4), 0);
        due.is("the second by one", drawnAt(40, 59, 50).about(2, 4), 1);
        due.is("the first by one", drawnAt(41, 60, 50).about(2, 4), 0);
    }

    private static void fromIsNoLaterOne() {
        UnlikeDrawn x = drawnAt(10, 90, 90, 90);
        due.is("FROM of 1", x.about(1, 4), 0);
        due.is("FROM of 2", x.about(2, 4), 1);
        due.is("FROM of 3", x.about(3, 4), 1);
        due.is("FROM of 0", x.about(0, 4), NONE);
    }

    private static void fromOfACopy() {
        UnlikeDrawn x = drawnAt(10, 90);
        Due.write(x, 0, "0+0");
        x.copied(0, 1, 0);
        due.is("at 50, copied from 90: FROM is the first of like ones", x.about(2, 4), 0);
        due.is("it was COPIED from", x.about(2, 7), 1);
        Due.write(x, 0, "*x");
        x.copied(0, 1, 0);
        due.is("without any PART: FROM is the first of like ones", x.about(3, 4), 0);
    }

    private static void agesOfNoneOneAndAll() {
        UnlikeDrawn x = Due.withHeads(Due.row());
        for (int i = 0; i < 30; i++) {
            x.place(0, 0, 3 * i);
            x.draw(0, 0, 1, 0);
            due.is("AGES of " + i, x.about(i, 5), i);
        }
        UnlikeDrawn alike = Due.withHeads(Due.row());
        for (int i = 0; i < 30; i++) {
            alike.draw(0, 0, 1, 0);
            due.is("AGES of " + i + ", all alike", alike.about(i, 5), Math.min(i, 1));
        }
    }

    private static void agesJumpOverOthers() {
        UnlikeDrawn x = drawnAt(10, 90, 12, 88, 14);
        due.is("FROM of 4", x.about(4, 4), 2);
        due.is("AGES of 4", x.about(4, 5), 2);
        due.is("AGES of 3: by 1 and 0", x.about(3, 5), 2);
    }

    // promise 15: WHOSE
    private static void whoseOfLikeHandsIsTheLeast() {
        UnlikeDrawn x = Due.withHeads(Due.row(60), Due.row(40));
        x.draw(3, 0, 3, 0);
        due.is("all empty", x.about(0, 6), 0);
        Due.write(x, 0, "0+20");
        due.is("all but 0 alike", x.about(0, 6), 1);
        Due.write(x, 1, "0+0");
        Due.write(x, 2, "0-10");
        Due.write(x, 3, "0+0");
        due.is("70, 50, 40, 50 for 60: of like ones the least", x.about(0, 6), 0);
        Due.write(x, 0, "0+21");
        due.is("71, 50, 40, 50 for 60", x.about(0, 6), 1);
    }

    private static void whoseIsEachHand() {
        for (int own = 0; own < 4; own++) {
            UnlikeDrawn x = Due.withHeads(Due.row(60), Due.row(40));
            for (int hand = 0; hand < 4; hand++) {
                Due.write(x, hand, hand == own ? "7x" : "*+2" + hand);
            }
            x.draw(own, 0, 3, 0);
            due.is("by " + own, x.about(0, 6), own);
        }
    }

    private static void whoseWithOddAtItsEdges() {
        UnlikeDrawn x = Due.withHeads(Due.row(60), Due.row(40));
        x.draw(3, 0, 3, 0);
        // for 60: HAND 0 is off by 3, 1 by ODD, 2 and 3 by 2
        Due.write(x, 0, "0+13");
        Due.write(x, 1, "0x");
        Due.write(x, 2, "0+12");
        Due.write(x, 3, "0+8");
        int[] odd = {0, 1, 2, 3, 99};
        int[] want = {1, 1, 1, 2, 2};
        for (int i = 0; i < odd.length; i++) {
            x.set(2, odd[i]);
            due.is("WHOSE with ODD " + odd[i], x.about(0, 6), want[i]);
        }
    }

    /** By its HEAD's PLACES as they are now, as of any other DRAWING. */
    private static void whoseOfACopy() {
        UnlikeDrawn x = Due.withHeads(Due.row(60), Due.row(40));
        Due.write(x, 1, "0+20");
        Due.write(x, 2, "0+40");
        x.draw(1, 0, 3, 0);
        x.copied(1, 0, 0);
        due.is("50 and 40 is HAND 2's, though HAND 1 copied it", x.about(1, 6), 2);
        x.place(0, 0, 90);
        due.is("it is HAND 0's if the HEAD is there", x.about(1, 6), 0);
    }

    private static void copiedFromNone() {
        UnlikeDrawn x = Due.withHeads(Due.row());
        x.draw(0, 0, 1, 0);
        x.draw(0, 0, 1, 0);
        x.copied(0, 0, 0);
        due.is("a DRAWING of a HEAD", x.about(1, 7), NONE);
        due.is("a copy of the first", x.about(2, 7), 0);
    }

    // promise 16
    private static void unlikeItself() {
        UnlikeDrawn x = Due.withHeads(Due.row(7, 99));
        Due.write(x, 0, "3x");
        x.set(2, 99);
        x.draw(0, 0, 1, 0);
        due.is("unlike(0, 0)", x.unlike(0, 0), 0);
        x.copied(0, 0, 0);
        due.is("a copy of the same", x.unlike(0, 1), 0);
    }

    private static void unlikeWithoutParts() {
        UnlikeDrawn x = Due.withHeads(Due.row(7, 99));
        x.draw(0, 0, 1, 0);
        Due.write(x, 0, "*x");
        x.draw(0, 0, 1, 0);
        x.draw(0, 0, 1, 0);
        due.is("all against none", x.unlike(0, 1), 160);
        due.is("none against all", x.unlike(1, 0), 160);
        due.is("none against none", x.unlike(1, 2), 0);
        Due.write(x, 0, "*x;7+10");
        x.draw(0, 0, 1, 0);
        due.is("one against none", x.unlike(3, 1), 20);
        due.is("one against all", x.unlike(3, 0), 140);
    }

    private static void unlikeAtTheMost() {
        UnlikeDrawn x = Due.withHeads(Due.row(99, 99, 99, 99, 99, 99, 99, 99), new int[8]);
        Due.write(x, 0, "*+60");
        Due.write(x, 1, "*-60");
        x.draw(0, 0, 3, 0);
        x.copied(0, 0, 0);
        x.copied(0, 1, 0);
        x.copied(1, 1, 0);
        due.is("8 times 7000 less -7000", x.unlike(2, 3), 112000);
        due.is("turned", x.unlike(3, 2), 112000);
    }
}
