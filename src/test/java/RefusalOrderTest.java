/** 'Refusals, the first that fits, in the order told at each act': calls which two of them fit; nothing changes. */
final class RefusalOrderTest {
    private static final Due due = new Due("order of refusals");
    /** HEAD 2 is one that KNOWER 0 does not KNOW; SHEET 2 is LOST, 0 and 3 are bytes, 1 is ints. */
    private static final Refusal some = new Refusal(due, Scene.SOME.calls);
    private static final Refusal all = new Refusal(due, Scene.ALL.calls);
    private static final int LEAST = Integer.MIN_VALUE;
    private static final int MOST = Integer.MAX_VALUE;

    public static void main(String[] args) {
        readBadThenNull();
        typeBadThenFull();
        drawBadThenFull();
        copiedBadThenFull();
        knowerBadThenFull();
        scoreBadThenNot();
        namedBadThenNot();
        muchBadThenNot();
        fewBadThenNot();
        standsBadThenNot();
        growsBadThenNot();
        sheetBadThenSize();
        layBadNullCastIndex();
        getBadNullCastIndex();
        copyBadNullStoreIndex();
        writeBadThenNull();
        due.end();
    }

    // promise 4
    private static void readBadThenNull() {
        some.is(Refusal.BAD, "read", 2, 3);
        some.is(Refusal.BAD, "read", 2, -1);
        some.is(Refusal.BAD, "read", 2, LEAST);
        some.is(Refusal.NULL, "read", 2, 0);
        some.is(Refusal.NULL, "read", 2, 2);
    }

    // promise 6
    private static void typeBadThenFull() {
        for (int hand = 0; hand < 4; hand++) {
            all.is(Refusal.BAD, "type", hand, 256);
            all.is(Refusal.BAD, "type", hand, -1);
            all.is(Refusal.FULL, "type", hand, 0);
            all.is(Refusal.FULL, "type", hand, 255);
        }
    }

    // promise 12
    private static void drawBadThenFull() {
        all.is(Refusal.BAD, "draw", 4, 0, 1, 98);
        all.is(Refusal.BAD, "draw", 0, 8, 1, 98);
        all.is(Refusal.BAD, "draw", 0, 0, 0, 98);
        all.is(Refusal.BAD, "draw", 0, 0, 256, 98);
        all.is(Refusal.BAD, "draw", 0, 0, 1, 97);
        all.is(Refusal.BAD, "draw", 0, 0, 1, 100);
        all.is(Refusal.FULL, "draw", 0, 0, 1, 98);
        all.is(Refusal.FULL, "draw", 3, 7, 255, 99);
    }

    // promise 13
    private static void copiedBadThenFull() {
        all.is(Refusal.BAD, "copied", 4, 0, 98);
        all.is(Refusal.BAD, "copied", 0, 30, 98);
        all.is(Refusal.BAD, "copied", 0, -1, 98);
        all.is(Refusal.BAD, "copied", 0, 0, 97);
        all.is(Refusal.BAD, "copied", 0, 0, 100);
        all.is(Refusal.FULL, "copied", 0, 0, 98);
        all.is(Refusal.FULL, "copied", 3, 29, 99);
    }

    // promise 17
    private static void knowerBadThenFull() {
        all.is(Refusal.BAD, "knower", 0, 1);
        all.is(Refusal.BAD, "knower", 256, 1);
        all.is(Refusal.BAD, "knower", 1, 256);
        all.is(Refusal.BAD, "knower", 1, -1);
        all.is(Refusal.FULL, "knower", 1, 0);
        all.is(Refusal.FULL, "knower", 255, 255);
    }

    // promise 20
    private static void scoreBadThenNot() {
        some.is(Refusal.BAD, "score", 0, 0, 2, 2);
        some.is(Refusal.BAD, "score", 0, 0, 2, -1);
        some.is(Refusal.BAD, "score", 0, 3, 2, 0);
        some.is(Refusal.BAD, "score", 0, 0, 3, 0);
        some.is(Refusal.NOT, "score", 0, 0, 2, 0);
        some.is(Refusal.NOT, "score", 0, 2, 2, 1);
    }

    // promise 21: KNOWER 2 KNOWS nobody
    private static void namedBadThenNot() {
        Refusal nobody = new Refusal(due, Scene.SOME.calls.andThen(x -> x.ask("knower", 7, 0)));
        nobody.is(Refusal.BAD, "named", 2, 0, 2);
        nobody.is(Refusal.BAD, "named", 2, 0, -1);
        nobody.is(Refusal.BAD, "named", 2, 3, 1);
        nobody.is(Refusal.NOT, "named", 2, 0, 1);
        nobody.is(Refusal.NOT, "named", 2, 2, 1);
    }

    // promise 22
    private static void muchBadThenNot() {
        some.is(Refusal.BAD, "much", 0, 2, 0, 0);
        some.is(Refusal.BAD, "much", 0, 2, 8, 1);
        some.is(Refusal.BAD, "much", 0, 2, 1, 3);
        some.is(Refusal.BAD, "much", 0, 2, 1, -1);
        some.is(Refusal.NOT, "much", 0, 2, 1, 0);
        some.is(Refusal.NOT, "much", 0, 2, 1, 1);
    }

    // promise 23
    private static void fewBadThenNot() {
        some.is(Refusal.BAD, "few", 0, 2, 0, 10);
        some.is(Refusal.BAD, "few", 0, 2, 1, 61);
        some.is(Refusal.BAD, "few", 0, 2, 1, -1);
        some.is(Refusal.NOT, "few", 0, 2, 1, 0);
        some.is(Refusal.NOT, "few", 0, 2, 1, 60);
    }

    // promise 24
    private static void standsBadThenNot() {
        some.is(Refusal.BAD, "stands", 0, 2, 0, 10);
        some.is(Refusal.BAD, "stands", 0, 2, 1, 61);
        some.is(Refusal.BAD, "stands", 0, 2, 1, -1);
        some.is(Refusal.NOT, "stands", 0, 2, 1, 0);
        some.is(Refusal.NOT, "stands", 0, 2, 1, 60);
    }

    // promise 25: HEAD 2 has no DRAWINGS
    private static void growsBadThenNot() {
        some.is(Refusal.BAD, "grows", 2, 8, 0);
        some.is(Refusal.BAD, "grows", 2, 0, 2);
        some.is(Refusal.BAD, "grows", 2, 0, -1);
        some.is(Refusal.NOT, "grows", 2, 0, 0);
        some.is(Refusal.NOT, "grows", 2, 7, 1);
    }

    // promise 30
    private static void sheetBadThenSize() {
        some.is(Refusal.BAD, "sheet", 4, 0, -1);
        some.is(Refusal.BAD, "sheet", -1, 0, LEAST);
        some.is(Refusal.BAD, "sheet", 0, 3, -1);
        some.is(Refusal.BAD, "sheet", 0, -1, LEAST);
        some.is(Refusal.SIZE, "sheet", 1, 2, -1);
        some.is(Refusal.SIZE, "sheet", 2, 0, LEAST);
    }

    // promise 32
    private static void layBadNullCastIndex() {
        some.is(Refusal.BAD, "lay", 2, 3, 0, 1);
        some.is(Refusal.BAD, "lay", 0, -1, 9, 1);
        some.is(Refusal.BAD, "lay", 4, 0, -1, 1);
        some.is(Refusal.NULL, "lay", 2, 0, -1, 1);
        some.is(Refusal.NULL, "lay", 2, 2, 0, 1);
        some.is(Refusal.CAST, "lay", 0, 1, 0, 1);
        some.is(Refusal.CAST, "lay", 0, 2, 3, 1);
        some.is(Refusal.CAST, "lay", 1, 0, LEAST, 1);
        some.is(Refusal.INDEX, "lay", 0, 0, 3, 1);
        some.is(Refusal.INDEX, "lay", 1, 2, -1, 1);
    }

    // promise 33
    private static void getBadNullCastIndex() {
        some.is(Refusal.BAD, "get", 2, 3, 0);
        some.is(Refusal.BAD, "get", 0, -1, 9);
        some.is(Refusal.BAD, "get", 4, 0, -1);
        some.is(Refusal.NULL, "get", 2, 0, -1);
        some.is(Refusal.NULL, "get", 2, 2, 0);
        some.is(Refusal.CAST, "get", 0, 1, 0);
        some.is(Refusal.CAST, "get", 0, 2, 3);
        some.is(Refusal.CAST, "get", 1, 0, MOST);
        some.is(Refusal.INDEX, "get", 0, 0, 3);
        some.is(Refusal.INDEX, "get", 1, 2, -1);
    }

    // promise 34
    private static void copyBadNullStoreIndex() {
        some.is(Refusal.BAD, "copy", 4, 0, 2, 0, 0);
        some.is(Refusal.BAD, "copy", 2, 0, 4, 0, 0);
        some.is(Refusal.BAD, "copy", 2, -1, -1, -1, -1);
        some.is(Refusal.NULL, "copy", 2, 0, 0, 0, 0);
        some.is(Refusal.NULL, "copy", 0, 0, 2, 0, 0);
        some.is(Refusal.NULL, "copy", 2, 0, 2, 0, 0);
        some.is(Refusal.NULL, "copy", 2, -1, 1, 99, -1);
        some.is(Refusal.NULL, "copy", 1, LEAST, 2, MOST, MOST);
        some.is(Refusal.STORE, "copy", 0, 0, 1, 0, 0);
        some.is(Refusal.STORE, "copy", 1, 0, 0, 0, 1);
        some.is(Refusal.STORE, "copy", 0, -1, 1, 0, 1);
        some.is(Refusal.STORE, "copy", 0, 0, 1, 10, 1);
        some.is(Refusal.STORE, "copy", 0, 0, 1, 0, LEAST);
        some.is(Refusal.INDEX, "copy", 0, 0, 3, 0, 4);
    }

    // promise 35
    private static void writeBadThenNull() {
        some.is(Refusal.BAD, "write", 3, 2);
        some.is(Refusal.BAD, "write", -1, 2);
        some.is(Refusal.BAD, "write", MOST, 2);
        some.is(Refusal.NULL, "write", 0, 2);
        some.is(Refusal.NULL, "write", 2, 2);
    }
}
