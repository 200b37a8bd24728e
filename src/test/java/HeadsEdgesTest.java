import java.util.List;

/** Promises 1 to 5: a test for each boundary case of HEADS, their PLACES and MEANS. */
final class HeadsEdgesTest {
    private static final Due due = new Due("edges of heads");
    private static final int LEAST = Integer.MIN_VALUE;
    private static final int MOST = Integer.MAX_VALUE;

    public static void main(String[] args) {
        newHasNoThings();
        newSheetsAreLost();
        newHandsAreEmpty();
        objectsShareNothing();
        headsAreNumberedAsTheyCome();
        aLaterHeadIsAtFirstToo();
        placesAtTheLeastAndTheMost();
        placeIsThatOfOnePartAlone();
        placeOfTheSameAgain();
        readOfNoItems();
        readOfOneItem();
        readOfSevenEightNine();
        readOfSixty();
        readAtTheEdgesOfAPlace();
        readStopsAtEachItem();
        readOfBytesThatWrap();
        readOfShortsThatWrap();
        readOfTheLeastAndTheMostInt();
        readLeavesTheSheet();
        meanOfOneIsItsPlace();
        meanIsCut();
        meanOfAllHeads();
        meanOfLeastAndMost();
        meanOfHeadsThatThereAreNot();
        due.end();
    }

    // promise 1
    private static void newHasNoThings() {
        UnlikeDrawn x = new UnlikeDrawn();
        for (int what = 0; what <= 8; what++) {
            due.is("count(" + what + ")", x.count(what), 0);
        }
        due.is("HEAD", x.place(0, 0, 0), UnlikeDrawn.BAD);
        due.is("SET", x.plainest(1), UnlikeDrawn.BAD);
        due.is("DRAWING", x.about(0, 0), UnlikeDrawn.BAD);
        due.is("KNOWER", x.leans(0, 0), Due.ANY_BAD);
        due.is("knower with nobody to grow up by", x.knower(0, 0), UnlikeDrawn.BAD);
        due.is("the first RUIN", x.set(0, 60), 60);
        due.is("the first LAG", x.set(1, 10), 10);
        due.is("the first ODD", x.set(2, 20), 20);
    }

    private static void newSheetsAreLost() {
        for (int s = 0; s < 4; s++) {
            Refusal refusal = new Refusal(due, calls -> calls.head());
            refusal.is(Refusal.NULL, "lose", s);
            refusal.is(Refusal.NULL, "read", s, 0);
            refusal.is(Refusal.NULL, "lay", s, 0, 0, 0);
            refusal.is(Refusal.NULL, "get", s, 0, 0);
            refusal.is(Refusal.NULL, "copy", s, 0, s, 0, 0);
        }
    }

    private static void newHandsAreEmpty() {
        UnlikeDrawn x = new UnlikeDrawn();
        for (int hand = 0; hand < 4; hand++) {
            due.is("fault(" + hand + ")", x.fault(hand), UnlikeDrawn.NONE);
            due.is("wipe(" + hand + ")", x.wipe(hand), 0);
            due.is("tenths(" + hand + ", 0)", x.tenths(hand, 0), 10);
            due.is("tenths(" + hand + ", 7)", x.tenths(hand, 7), 10);
        }
    }

    private static void objectsShareNothing() {
        UnlikeDrawn other = new UnlikeDrawn();
        Scene.ALL.calls.accept(Calls.of(new UnlikeDrawn()));
        List<String> seen = Seen.of(Calls.of(other));
        due.same("beside a full one", seen.toString(), Seen.of(Calls.of(new Model())).toString());
    }

    // promise 2; FullTest has the ninth
    private static void headsAreNumberedAsTheyCome() {
        UnlikeDrawn x = new UnlikeDrawn();
        for (int head = 0; head < 8; head++) {
            due.is("count(0) ahead", x.count(0), head);
            due.is("plainest() ahead", x.plainest(1 << head), UnlikeDrawn.BAD);
            due.is("head()", x.head(), head);
            due.is("plainest() behind", x.plainest(1 << head), head);
        }
    }

    private static void aLaterHeadIsAtFirstToo() {
        UnlikeDrawn x = Due.withHeads(Due.row(1, 2, 3, 4, 5, 6, 7, 8));
        x.head();
        for (int part = 0; part < 8; part++) {
            due.is("mean(2, " + part + ")", x.mean(2, part), 50);
            due.is("mean(1, " + part + ")", x.mean(1, part), part + 1);
        }
    }

    // promise 3; NumberEdgesTest has what is outside
    private static void placesAtTheLeastAndTheMost() {
        UnlikeDrawn x = new UnlikeDrawn();
        for (int head = 0; head < 8; head++) {
            x.head();
            for (int part = 0; part < 8; part += 7) {
                due.is("place of 0", x.place(head, part, 0), 50);
                due.is("place of 1", x.place(head, part, 1), 0);
                due.is("place of 99", x.place(head, part, 99), 1);
                due.is("place of 98", x.place(head, part, 98), 99);
                due.is("place of 100", x.place(head, part, 100), UnlikeDrawn.BAD);
                due.is("place of -1", x.place(head, part, -1), UnlikeDrawn.BAD);
                due.is("mean()", x.mean(1 << head, part), 98);
            }
        }
    }

    private static void placeIsThatOfOnePartAlone() {
        for (int own = 0; own < 8; own++) {
            UnlikeDrawn x = Due.withHeads(Due.row(), Due.row(), Due.row());
            x.place(1, own, 0);
            for (int part = 0; part < 8; part++) {
                due.is("PART " + part + " of the HEAD ahead", x.mean(1, part), 50);
                due.is("PART " + part, x.mean(2, part), part == own ? 0 : 50);
                due.is("PART " + part + " of the HEAD behind", x.mean(4, part), 50);
            }
        }
    }

    private static void placeOfTheSameAgain() {
        UnlikeDrawn x = Due.withHeads(Due.row(7));
        due.is("place(0, 0, 7)", x.place(0, 0, 7), 7);
        due.is("place(0, 0, 7) again", x.place(0, 0, 7), 7);
    }

    // promise 4
    private static UnlikeDrawn withSheet(int form, int... items) {
        UnlikeDrawn x = Due.withHeads(Due.row(), Due.row(1, 2, 3, 4, 5, 6, 7, 8));
        Calls.of(x).fill(3, form, items);
        return x;
    }

    /** How many are read, and that these alone are new. */
    private static void reads(int many, UnlikeDrawn x, int... items) {
        due.is("read()", x.read(3, 1), many);
        for (int part = 0; part < 8; part++) {
            due.is("PART " + part + " of " + many, x.mean(2, part), part < many ? items[part] : part + 1);
            due.is("PART " + part + " of another HEAD", x.mean(1, part), 50);
        }
        due.is("count(8)", x.count(8), 0);
    }

    private static void readOfNoItems() {
        for (int form = 0; form < 3; form++) {
            reads(0, withSheet(form));
        }
    }

    private static void readOfOneItem() {
        reads(1, withSheet(0, 44), 44);
    }

    private static void readOfSevenEightNine() {
        int[] items = {90, 91, 92, 93, 94, 95, 96, 97, 98};
        reads(7, withSheet(1, 90, 91, 92, 93, 94, 95, 96), items);
        reads(8, withSheet(1, 90, 91, 92, 93, 94, 95, 96, 97), items);
        reads(8, withSheet(1, items), items);
        reads(8, withSheet(1, 90, 91, 92, 93, 94, 95, 96, 97, -1), items);
    }

    private static void readOfSixty() {
        UnlikeDrawn x = withSheet(0);
        x.sheet(3, 2, 60);
        reads(8, x, new int[8]);
    }

    private static void readAtTheEdgesOfAPlace() {
        for (int form = 0; form < 3; form++) {
            reads(2, withSheet(form, 0, 99, -1, 5), 0, 99);
            reads(2, withSheet(form, 99, 0, 100, 5), 99, 0);
        }
    }

    private static void readStopsAtEachItem() {
        for (int stop = 0; stop < 8; stop++) {
            int[] items = {20, 21, 22, 23, 24, 25, 26, 27};
            items[stop] = stop % 2 == 0 ? 100 : -1;
            reads(stop, withSheet(0, items), items);
        }
    }

    private static void readOfBytesThatWrap() {
        reads(1, withSheet(0, 256 + 99, 255), 99);
        reads(1, withSheet(0, -256, 128), 0);
    }

    private static void readOfShortsThatWrap() {
        reads(1, withSheet(1, 65536 + 99, 65535), 99);
        reads(1, withSheet(1, -65536, 256), 0);
    }

    private static void readOfTheLeastAndTheMostInt() {
        reads(1, withSheet(2, 9, MOST), 9);
        reads(1, withSheet(2, 9, LEAST), 9);
        reads(0, withSheet(2, 65536, 9));
        reads(0, withSheet(2, 256, 9));
    }

    private static void readLeavesTheSheet() {
        UnlikeDrawn x = withSheet(1, 5, 100, 6);
        x.read(3, 0);
        due.is("item 0", x.get(3, 1, 0), 5);
        due.is("item 1", x.get(3, 1, 1), 100);
        due.is("item 2", x.get(3, 1, 2), 6);
        due.is("lose()", x.lose(3), 3);
    }

    // promise 5
    private static void meanOfOneIsItsPlace() {
        UnlikeDrawn x = Due.withHeads(Due.row(0), Due.row(99), Due.row(1));
        due.is("mean(1, 0)", x.mean(1, 0), 0);
        due.is("mean(2, 0)", x.mean(2, 0), 99);
        due.is("mean(4, 0)", x.mean(4, 0), 1);
    }

    private static void meanIsCut() {
        UnlikeDrawn x = Due.withHeads(Due.row(0, 1, 2, 50), Due.row(1, 1, 3, 51), Due.row(1, 1, 3, 52));
        due.is("0 and 1 by 2", x.mean(3, 0), 0);
        due.is("0, 1 and 1 by 3", x.mean(7, 0), 0);
        due.is("1 and 1 by 2", x.mean(3, 1), 1);
        due.is("2, 3 and 3 by 3", x.mean(7, 2), 2);
        due.is("3 and 3 by 2", x.mean(6, 2), 3);
        due.is("50 and 51 by 2", x.mean(3, 3), 50);
        due.is("50, 51 and 52 by 3", x.mean(7, 3), 51);
    }

    private static void meanOfAllHeads() {
        UnlikeDrawn x = new UnlikeDrawn();
        for (int head = 0; head < 8; head++) {
            x.head();
            x.place(head, 0, head == 0 ? 0 : 1);
            x.place(head, 7, head == 7 ? 98 : 99);
        }
        due.is("7 by 8", x.mean(255, 0), 0);
        due.is("791 by 8", x.mean(255, 7), 98);
        x.place(0, 0, 1);
        x.place(7, 7, 99);
        due.is("8 by 8", x.mean(255, 0), 1);
        due.is("792 by 8", x.mean(255, 7), 99);
        x.place(3, 0, 8);
        due.is("15 by 8", x.mean(255, 0), 1);
        x.place(3, 0, 9);
        due.is("16 by 8", x.mean(255, 0), 2);
    }

    private static void meanOfLeastAndMost() {
        UnlikeDrawn x = Due.withHeads(Due.row(0), Due.row(99));
        due.is("99 by 2", x.mean(3, 0), 49);
        x.place(0, 0, 99);
        due.is("198 by 2", x.mean(3, 0), 99);
        x.place(0, 0, 0);
        x.place(1, 0, 0);
        due.is("0 by 2", x.mean(3, 0), 0);
    }

    private static void meanOfHeadsThatThereAreNot() {
        Refusal two = new Refusal(due, calls -> {
            calls.head();
            calls.head();
        });
        int[] sets = {0, 4, 5, 7, 8, 128, 256, 257, 1 << 30, LEAST, LEAST + 1, LEAST + 3, -1, -2, -3, MOST};
        for (int set : sets) {
            two.is(Refusal.BAD, "mean", set, 0);
            two.is(Refusal.BAD, "drawn", 0, 0, set, 0);
            two.is(Refusal.BAD, "draw", 0, 0, set, 0);
            two.is(Refusal.BAD, "knower", set, 1);
            two.is(Refusal.BAD, "witness", 0, set, 0);
            two.is(Refusal.BAD, "plainest", set);
        }
    }
}
