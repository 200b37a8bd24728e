/** What is full: the last that there may be is made, the next is FULL, is no FINDING, and changes nothing. */
final class FullTest {
    private static final Due due = new Due("what is full");

    public static void main(String[] args) {
        heads();
        hands();
        handIsFreeAgain();
        drawings();
        copies();
        fullDrawingsKeepTheYear();
        knowers();
        fullOneIsStillUsed();
        due.end();
    }

    // promise 2
    private static void heads() {
        UnlikeDrawn x = new UnlikeDrawn();
        for (int head = 0; head < 8; head++) {
            due.is("no such HEAD yet", x.place(head, 0, 1), UnlikeDrawn.BAD);
            due.is("head() " + head, x.head(), head);
            due.is("PLACE at first", x.place(head, 7, 99), 50);
        }
        due.is("head() of the ninth", x.head(), UnlikeDrawn.FULL);
        due.is("head() of the ninth again", x.head(), UnlikeDrawn.FULL);
        due.is("place(8, 0, 1)", x.place(8, 0, 1), UnlikeDrawn.BAD);
        due.is("mean(256, 0)", x.mean(256, 0), UnlikeDrawn.BAD);
        due.is("mean(255, 7)", x.mean(255, 7), 99);
        new Refusal(due, Scene.ALL.calls).is(Refusal.FULL, "head");
    }

    // promise 6
    private static void hands() {
        for (int hand = 0; hand < 4; hand++) {
            UnlikeDrawn x = new UnlikeDrawn();
            for (int many = 1; many <= 40; many++) {
                due.is("byte " + many, x.type(hand, "*+10;".charAt((many - 1) % 5)), many);
            }
            due.is("type of a byte more", x.type(hand, '0'), UnlikeDrawn.FULL);
            due.is("count() of bytes", x.count(3 + hand), 40);
            due.is("fault at its end", x.fault(hand), 40);
            due.is("another HAND is not full", x.type((hand + 1) % 4, '*'), 1);
            due.is("count(8)", x.count(8), 0);
            final int full = hand;
            new Refusal(due, calls -> calls.write(full, "*+10;*+10;*+10;*+10;*+10;*+10;*+10;*-025"))
                    .is(Refusal.FULL, "type", hand, ';');
        }
    }

    // promise 7
    private static void handIsFreeAgain() {
        UnlikeDrawn x = new UnlikeDrawn();
        Due.write(x, 2, "*+10;*+10;*+10;*+10;*+10;*+10;*+10;*-025");
        due.is("full", x.type(2, 0), UnlikeDrawn.FULL);
        due.is("wipe(2)", x.wipe(2), 40);
        due.is("type(2, '*')", x.type(2, '*'), 1);
    }

    // promise 12
    private static void drawings() {
        UnlikeDrawn x = Due.withHeads(Due.row(60), Due.row(40));
        for (int i = 0; i < 30; i++) {
            due.is("no such DRAWING yet", x.line(i, 0), Due.ANY_BAD);
            due.is("draw " + i, x.draw(0, i % 2, 3, 99), i);
        }
        due.is("draw of one more", x.draw(0, 0, 3, 99), UnlikeDrawn.FULL);
        due.is("copied, one more", x.copied(0, 0, 99), UnlikeDrawn.FULL);
        due.is("count(1)", x.count(1), 30);
        due.is("line(29, 0)", x.line(29, 0), 40);
        due.is("line(30, 0)", x.line(30, 0), Due.ANY_BAD);
        due.is("count(8)", x.count(8), 0);
    }

    // promise 13
    private static void copies() {
        UnlikeDrawn x = Due.withHeads(Due.row(60), Due.row(40));
        x.draw(0, 0, 3, 0);
        for (int i = 1; i < 30; i++) {
            due.is("copied " + i, x.copied(0, i - 1, 0), i);
        }
        due.is("copied, one more", x.copied(0, 29, 0), UnlikeDrawn.FULL);
        due.is("draw, one more", x.draw(0, 0, 3, 0), UnlikeDrawn.FULL);
        due.is("count(1)", x.count(1), 30);
        due.is("the last was COPIED from", x.about(29, 7), 28);
        due.is("about(30, 7)", x.about(30, 7), UnlikeDrawn.BAD);
    }

    /** A refused DRAWING's YEAR is not that of the one ahead. */
    private static void fullDrawingsKeepTheYear() {
        UnlikeDrawn x = Due.withHeads(Due.row());
        for (int i = 0; i < 30; i++) {
            x.draw(0, 0, 1, 10);
        }
        due.is("FULL in 99", x.draw(0, 0, 1, 99), UnlikeDrawn.FULL);
        due.is("FULL, not BAD, in 10", x.draw(0, 0, 1, 10), UnlikeDrawn.FULL);
        due.is("BAD in 9", x.copied(0, 0, 9), UnlikeDrawn.BAD);
    }

    // promise 17
    private static void knowers() {
        UnlikeDrawn x = Due.withHeads(Due.row(1), Due.row(2));
        for (int knower = 0; knower < 4; knower++) {
            due.is("no such KNOWER yet", x.leans(knower, 0), Due.ANY_BAD);
            due.is("knower " + knower, x.knower(1 + knower % 2, 3), knower);
        }
        due.is("knower, a fifth", x.knower(1, 3), UnlikeDrawn.FULL);
        due.is("count(2)", x.count(2), 4);
        due.is("leans(3, 0)", x.leans(3, 0), 2);
        due.is("leans(4, 0)", x.leans(4, 0), Due.ANY_BAD);
        due.is("count(8)", x.count(8), 0);
    }

    private static void fullOneIsStillUsed() {
        UnlikeDrawn x = new UnlikeDrawn();
        Scene.ALL.calls.accept(Calls.of(x));
        due.is("place of the last", x.place(7, 7, 3), 50);
        due.is("look of the last at the last", x.look(3, 29, 60), 1);
        due.is("plainest of all: 3 and 4 are off by 6, of like ones the least", x.plainest(255), 3);
        due.is("AGES of the last", x.about(29, 5) > 0 ? 1 : 0, 1);
    }
}
