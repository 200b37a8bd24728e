/** Promises 30 to 35: a test for each boundary case of SHEETS. */
final class SheetsEdgesTest {
    private static final Due due = new Due("edges of sheets");
    private static final int LEAST = Integer.MIN_VALUE;
    private static final int MOST = Integer.MAX_VALUE;

    public static void main(String[] args) {
        sheetOfNoneOneAndSixty();
        sheetOfSixtyOne();
        sheetBelowZero();
        sheetAnewIsAllZero();
        sheetOfAnotherForm();
        sheetOfOneAlone();
        loseOfNoneOneAndSixty();
        loseAgain();
        lostItemsAreGone();
        layAtTheEdgesOfAByte();
        layAtTheEdgesOfAShort();
        layAtTheEdgesOfAnInt();
        layAtTheFirstAndTheLastItem();
        layOfNoItems();
        getOfTheLeastIntIsNoRefusal();
        getOfNoItems();
        refusalsOfEachForm();
        copyOfNone();
        copyOfAll();
        copyToTheLastItem();
        copyOntoItselfForwards();
        copyOntoItselfBackwards();
        copyOntoItselfInPlace();
        copyOutside();
        copyOutsideByFar();
        copyOfNoneOutside();
        copyWithEmptySheets();
        copyOfUnlikeForms();
        writeOfNoneSevenEightNine();
        writeOfSixty();
        writeOfLeftOut();
        writeOfBytesThatWrap();
        writeOfShortsAndInts();
        writeReadsBack();
        due.end();
    }

    private static UnlikeDrawn with(int s, int form, int... items) {
        UnlikeDrawn x = new UnlikeDrawn();
        Calls.of(x).fill(s, form, items);
        return x;
    }

    /** The items, and that there are no more. */
    private static void items(UnlikeDrawn x, int s, int form, int... want) {
        for (int i = 0; i < want.length; i++) {
            due.is("item " + i + " of SHEET " + s, x.get(s, form, i), want[i]);
        }
        due.is("behind the last item of SHEET " + s, x.lay(s, form, want.length, 1), Due.INDEX);
    }

    // promise 30
    private static void sheetOfNoneOneAndSixty() {
        for (int s = 0; s < 4; s++) {
            for (int form = 0; form < 3; form++) {
                UnlikeDrawn x = new UnlikeDrawn();
                due.is("of 0 items", x.sheet(s, form, 0), 0);
                items(x, s, form);
                due.is("of 1 item", x.sheet(s, form, 1), 1);
                items(x, s, form, 0);
                due.is("of 60 items", x.sheet(s, form, 60), 60);
                items(x, s, form, new int[60]);
            }
        }
    }

    private static void sheetOfSixtyOne() {
        Refusal refusal = new Refusal(due, Scene.SOME.calls);
        int[] many = {61, 62, 256, 65536, MOST - 1, MOST};
        for (int n : many) {
            refusal.is(Refusal.BAD, "sheet", 1, 2, n);
            refusal.is(Refusal.BAD, "sheet", 2, 0, n);
        }
    }

    private static void sheetBelowZero() {
        Refusal refusal = new Refusal(due, Scene.SOME.calls);
        int[] many = {-1, -2, -256, LEAST + 1, LEAST};
        for (int n : many) {
            refusal.is(Refusal.SIZE, "sheet", 1, 2, n);
            refusal.is(Refusal.SIZE, "sheet", 2, 0, n);
        }
    }

    private static void sheetAnewIsAllZero() {
        UnlikeDrawn x = with(1, 2, 7, 8, 9);
        due.is("the same again", x.sheet(1, 2, 3), 3);
        items(x, 1, 2, 0, 0, 0);
        x.lay(1, 2, 2, 9);
        x.sheet(1, 2, 2);
        due.is("with an item more", x.sheet(1, 2, 3), 3);
        items(x, 1, 2, 0, 0, 0);
    }

    private static void sheetOfAnotherForm() {
        UnlikeDrawn x = with(1, 2, 7, 8, 9);
        due.is("as bytes", x.sheet(1, 0, 2), 2);
        due.is("not ints any more", x.lay(1, 2, 0, 1), Due.CAST);
        items(x, 1, 0, 0, 0);
    }

    private static void sheetOfOneAlone() {
        UnlikeDrawn x = with(1, 2, 7);
        x.sheet(0, 2, 5);
        x.sheet(2, 2, 5);
        items(x, 1, 2, 7);
        due.is("SHEET 3 is LOST", x.lose(3), Due.NULL);
    }

    // promise 31
    private static void loseOfNoneOneAndSixty() {
        int[] many = {0, 1, 59, 60};
        for (int n : many) {
            UnlikeDrawn x = new UnlikeDrawn();
            x.sheet(3, 1, n);
            due.is("lose of " + n, x.lose(3), n);
            due.is("it is LOST", x.lay(3, 1, 0, 0), Due.NULL);
        }
    }

    private static void loseAgain() {
        Refusal refusal = new Refusal(due, Scene.SOME.calls);
        refusal.is(Refusal.NULL, "lose", 2);
        UnlikeDrawn x = with(0, 0, 1);
        x.lose(0);
        due.is("again", x.lose(0), Due.NULL);
        due.is("count(8)", x.count(8), 1);
        due.is("once more", x.lose(0), Due.NULL);
        x.sheet(0, 0, 4);
        due.is("behind a new row", x.lose(0), 4);
    }

    private static void lostItemsAreGone() {
        UnlikeDrawn x = with(0, 0, 5, 6);
        x.lose(0);
        x.sheet(0, 0, 2);
        items(x, 0, 0, 0, 0);
    }

    // promise 32
    private static void laid(int form, int v, int want) {
        UnlikeDrawn x = with(0, form, 1, 2, 3);
        due.is("lay of " + v + " as FORM " + form, x.lay(0, form, 1, v), 1);
        items(x, 0, form, 1, want, 3);
    }

    private static void layAtTheEdgesOfAByte() {
        int[] told = {-128, -129, 127, 128, 255, 256, -256, -257, 0, -1, MOST, LEAST, LEAST + 1, 32767, 32768};
        int[] want = {-128, 127, 127, -128, -1, 0, 0, -1, 0, -1, -1, 0, 1, -1, 0};
        for (int i = 0; i < told.length; i++) {
            laid(0, told[i], want[i]);
        }
    }

    private static void layAtTheEdgesOfAShort() {
        int[] told = {-32768, -32769, 32767, 32768, 65535, 65536, -65536, -65537, 0, -1, MOST, LEAST, LEAST + 1, 128, 255};
        int[] want = {-32768, 32767, 32767, -32768, -1, 0, 0, -1, 0, -1, -1, 0, 1, 128, 255};
        for (int i = 0; i < told.length; i++) {
            laid(1, told[i], want[i]);
        }
    }

    private static void layAtTheEdgesOfAnInt() {
        int[] told = {0, -1, MOST, LEAST + 1, 128, 255, 32768, 65535, 65536, -32769, -129};
        for (int v : told) {
            laid(2, v, v);
        }
        UnlikeDrawn x = with(0, 2, 1);
        due.is("lay of the least int", x.lay(0, 2, 0, LEAST), 1);
        due.is("get of it", x.get(0, 2, 0), LEAST);
        due.is("count(8)", x.count(8), 0);
    }

    private static void layAtTheFirstAndTheLastItem() {
        for (int form = 0; form < 3; form++) {
            UnlikeDrawn x = new UnlikeDrawn();
            x.sheet(0, form, 60);
            due.is("item 0", x.lay(0, form, 0, 7), 1);
            due.is("item 59", x.lay(0, form, 59, 8), 1);
            due.is("item 60", x.lay(0, form, 60, 9), Due.INDEX);
            due.is("item -1", x.lay(0, form, -1, 9), Due.INDEX);
            due.is("get 0", x.get(0, form, 0), 7);
            due.is("get 1", x.get(0, form, 1), 0);
            due.is("get 58", x.get(0, form, 58), 0);
            due.is("get 59", x.get(0, form, 59), 8);
        }
    }

    private static void layOfNoItems() {
        Refusal refusal = new Refusal(due, calls -> calls.fill(1, 1));
        refusal.is(Refusal.INDEX, "lay", 1, 1, 0, 5);
        refusal.is(Refusal.INDEX, "lay", 1, 1, -1, 5);
        refusal.is(Refusal.CAST, "lay", 1, 0, 0, 5);
    }

    // promise 33
    private static void getOfTheLeastIntIsNoRefusal() {
        UnlikeDrawn x = with(0, 2, LEAST);
        due.is("the item", x.get(0, 2, 0), LEAST);
        due.is("count(8) tells", x.count(8), 0);
        due.is("a refusal", x.get(0, 2, 1), LEAST);
        due.is("count(8) tells INDEX", x.count(8), 2);
        due.is("BAD", x.get(0, 3, 0), LEAST);
        due.is("count(8) stays", x.count(8), 2);
    }

    private static void getOfNoItems() {
        Refusal refusal = new Refusal(due, calls -> calls.fill(1, 1));
        refusal.is(Refusal.INDEX, "get", 1, 1, 0);
        refusal.is(Refusal.INDEX, "get", 1, 1, -1);
        refusal.is(Refusal.CAST, "get", 1, 2, 0);
    }

    private static void refusalsOfEachForm() {
        for (int own = 0; own < 3; own++) {
            final int form = own;
            Refusal refusal = new Refusal(due, calls -> calls.fill(2, form, 1, 2));
            for (int asked = 0; asked < 3; asked++) {
                if (asked != own) {
                    refusal.is(Refusal.CAST, "lay", 2, asked, 0, 5);
                    refusal.is(Refusal.CAST, "get", 2, asked, 0);
                }
            }
            refusal.is(Refusal.INDEX, "lay", 2, own, 2, 5);
            refusal.is(Refusal.INDEX, "get", 2, own, 2);
            refusal.is(Refusal.INDEX, "get", 2, own, MOST);
            refusal.is(Refusal.INDEX, "get", 2, own, LEAST);
        }
    }

    // promise 34
    private static UnlikeDrawn two() {
        UnlikeDrawn x = with(0, 1, 1, 2, 3, 4);
        Calls.of(x).fill(1, 1, 10, 20, 30);
        return x;
    }

    private static void copyOfNone() {
        int[][] at = {{0, 0}, {4, 3}, {4, 0}, {0, 3}, {2, 1}};
        for (int[] a : at) {
            UnlikeDrawn x = two();
            due.is("copy of none at " + a[0] + " and " + a[1], x.copy(0, a[0], 1, a[1], 0), 1);
            due.is("count(8)", x.count(8), 0);
            items(x, 0, 1, 1, 2, 3, 4);
            items(x, 1, 1, 10, 20, 30);
        }
    }

    private static void copyOfAll() {
        UnlikeDrawn x = two();
        due.is("all of 1", x.copy(1, 0, 0, 0, 3), 1);
        items(x, 0, 1, 10, 20, 30, 4);
        items(x, 1, 1, 10, 20, 30);
        x.sheet(2, 1, 60);
        x.sheet(3, 1, 60);
        x.lay(2, 1, 0, 5);
        x.lay(2, 1, 59, 6);
        due.is("all of sixty", x.copy(2, 0, 3, 0, 60), 1);
        due.is("the first", x.get(3, 1, 0), 5);
        due.is("the last", x.get(3, 1, 59), 6);
    }

    private static void copyToTheLastItem() {
        UnlikeDrawn x = two();
        due.is("the last to the last", x.copy(0, 3, 1, 2, 1), 1);
        items(x, 1, 1, 10, 20, 4);
        due.is("the first to the first", x.copy(0, 0, 1, 0, 1), 1);
        items(x, 1, 1, 1, 20, 4);
        due.is("the last two to the last two", x.copy(0, 2, 1, 1, 2), 1);
        items(x, 1, 1, 1, 3, 4);
    }

    private static void copyOntoItselfForwards() {
        UnlikeDrawn x = with(2, 0, 1, 2, 3, 4, 5);
        due.is("by one", x.copy(2, 0, 2, 1, 4), 1);
        items(x, 2, 0, 1, 1, 2, 3, 4);
        UnlikeDrawn y = with(2, 2, 1, 2, 3, 4, 5);
        due.is("by two", y.copy(2, 0, 2, 2, 3), 1);
        items(y, 2, 2, 1, 2, 1, 2, 3);
    }

    private static void copyOntoItselfBackwards() {
        UnlikeDrawn x = with(2, 0, 1, 2, 3, 4, 5);
        due.is("by one", x.copy(2, 1, 2, 0, 4), 1);
        items(x, 2, 0, 2, 3, 4, 5, 5);
    }

    private static void copyOntoItselfInPlace() {
        UnlikeDrawn x = with(2, 1, 1, 2, 3);
        due.is("all", x.copy(2, 0, 2, 0, 3), 1);
        items(x, 2, 1, 1, 2, 3);
    }

    private static void refusesCopy(int s, int i, int t, int j, int n) {
        Refusal refusal = new Refusal(due, calls -> {
            calls.fill(0, 1, 1, 2, 3, 4);
            calls.fill(1, 1, 10, 20, 30);
        });
        refusal.is(Refusal.INDEX, "copy", s, i, t, j, n);
    }

    private static void copyOutside() {
        refusesCopy(0, -1, 1, 0, 1);
        refusesCopy(0, 0, 1, -1, 1);
        refusesCopy(0, 0, 1, 0, -1);
        refusesCopy(0, 4, 1, 0, 1);
        refusesCopy(0, 3, 1, 0, 2);
        refusesCopy(0, 0, 1, 3, 1);
        refusesCopy(0, 0, 1, 2, 2);
        refusesCopy(0, 0, 1, 0, 4);
        refusesCopy(1, 0, 0, 0, 4);
        refusesCopy(0, 0, 0, 1, 4);
        refusesCopy(0, 1, 0, 0, 4);
        refusesCopy(0, 0, 0, 0, 5);
    }

    private static void copyOutsideByFar() {
        int[] far = {LEAST, LEAST + 1, MOST - 1, MOST, 60, 61};
        for (int v : far) {
            refusesCopy(0, v, 1, 0, 1);
            refusesCopy(0, 0, 1, v, 1);
            refusesCopy(0, 1, 1, 1, v);
            refusesCopy(0, v, 1, v, v);
            refusesCopy(0, v, 1, 0, 0);
            refusesCopy(0, 0, 1, v, 0);
        }
    }

    private static void copyOfNoneOutside() {
        refusesCopy(0, 5, 1, 0, 0);
        refusesCopy(0, 0, 1, 4, 0);
        refusesCopy(0, -1, 1, 0, 0);
        refusesCopy(0, 0, 1, -1, 0);
        refusesCopy(0, 5, 0, 5, 0);
    }

    private static void copyWithEmptySheets() {
        UnlikeDrawn x = with(0, 0, 1);
        x.sheet(1, 0, 0);
        due.is("none from none", x.copy(1, 0, 1, 0, 0), 1);
        due.is("none from none to one", x.copy(1, 0, 0, 1, 0), 1);
        due.is("none from one to none", x.copy(0, 1, 1, 0, 0), 1);
        due.is("one from none", x.copy(1, 0, 0, 0, 1), Due.INDEX);
        due.is("one to none", x.copy(0, 0, 1, 0, 1), Due.INDEX);
        due.is("none from 1 of none", x.copy(1, 1, 0, 0, 0), Due.INDEX);
        items(x, 0, 0, 1);
    }

    private static void copyOfUnlikeForms() {
        Refusal refusal = new Refusal(due, calls -> {
            calls.fill(0, 0, 1, 2);
            calls.fill(1, 1, 3, 4);
            calls.fill(2, 2, 5, 6);
        });
        for (int s = 0; s < 3; s++) {
            for (int t = 0; t < 3; t++) {
                if (s != t) {
                    refusal.is(Refusal.STORE, "copy", s, 0, t, 0, 1);
                    refusal.is(Refusal.STORE, "copy", s, 0, t, 0, 0);
                    refusal.is(Refusal.STORE, "copy", s, 3, t, 3, -1);
                }
            }
        }
    }

    // promise 35
    private static UnlikeDrawn drawn(String text) {
        UnlikeDrawn x = Due.withHeads(Due.row(0, 1, 2, 3, 4, 5, 6, 99), Due.row(99));
        Due.write(x, 0, text);
        x.draw(0, 0, 1, 0);
        return x;
    }

    private static void writeOfNoneSevenEightNine() {
        UnlikeDrawn x = drawn("");
        x.sheet(0, 1, 0);
        due.is("to no items", x.write(0, 0), 0);
        items(x, 0, 1);
        Calls.of(x).fill(0, 1, 9, 9, 9, 9, 9, 9, 9);
        due.is("to seven", x.write(0, 0), 7);
        items(x, 0, 1, 0, 1, 2, 3, 4, 5, 6);
        Calls.of(x).fill(0, 1, 9, 9, 9, 9, 9, 9, 9, 9);
        due.is("to eight", x.write(0, 0), 8);
        items(x, 0, 1, 0, 1, 2, 3, 4, 5, 6, 99);
        Calls.of(x).fill(0, 1, 9, 9, 9, 9, 9, 9, 9, 9, 9);
        due.is("to nine", x.write(0, 0), 8);
        items(x, 0, 1, 0, 1, 2, 3, 4, 5, 6, 99, 9);
        Calls.of(x).fill(0, 1, 9);
        due.is("to one", x.write(0, 0), 1);
        items(x, 0, 1, 0);
    }

    private static void writeOfSixty() {
        UnlikeDrawn x = drawn("");
        x.sheet(3, 2, 60);
        x.lay(3, 2, 8, 7);
        x.lay(3, 2, 59, 7);
        due.is("to sixty", x.write(0, 3), 8);
        due.is("item 7", x.get(3, 2, 7), 99);
        due.is("item 8", x.get(3, 2, 8), 7);
        due.is("item 59", x.get(3, 2, 59), 7);
    }

    private static void writeOfLeftOut() {
        UnlikeDrawn x = drawn("*x;1+10");
        x.sheet(0, 2, 3);
        due.is("ints", x.write(0, 0), 3);
        items(x, 0, 2, Due.ANY_NONE, 1, Due.ANY_NONE);
        x.sheet(0, 1, 3);
        due.is("shorts", x.write(0, 0), 3);
        items(x, 0, 1, Due.ANY_NONE, 1, Due.ANY_NONE);
        x.sheet(0, 0, 3);
        due.is("bytes", x.write(0, 0), 3);
        items(x, 0, 0, (byte) -9999, 1, (byte) -9999);
        due.is("-9999 as a byte", x.get(0, 0, 0), -15);
    }

    private static void writeOfBytesThatWrap() {
        int[] lines = {127, 128, -128, -129, 255, 256, -256, -257};
        int[] want = {127, -128, -128, 127, -1, 0, 0, -1};
        UnlikeDrawn x = Due.withHeads(Due.row(), Due.row());
        Due.write(x, 0, "*+60");
        x.sheet(0, 0, 1);
        for (int i = 0; i < lines.length; i++) {
            int made = lineAt(x, lines[i]);
            due.is("the line", x.line(made, 0), lines[i]);
            due.is("write", x.write(made, 0), 1);
            due.is("the byte of " + lines[i], x.get(0, 0, 0), want[i]);
        }
    }

    /** A DRAWING of HEAD 0 over HEAD 1, by HAND 0 with +60, that has PART 0 just there. */
    private static int lineAt(UnlikeDrawn x, int line) {
        for (int mean = 0; mean <= 99; mean++) {
            int off = (line - mean) / 6;
            if ((line - mean) % 6 == 0 && mean + off >= 0 && mean + off <= 99) {
                x.place(0, 0, mean + off);
                x.place(1, 0, mean);
                return x.draw(0, 0, 2, 0);
            }
        }
        return -1;
    }

    private static void writeOfShortsAndInts() {
        UnlikeDrawn x = Due.withHeads(Due.row(99, 0), Due.row(0, 99));
        Due.write(x, 0, "*+60");
        x.draw(0, 0, 3, 0);
        x.copied(0, 0, 0);
        x.copied(0, 1, 0);
        for (int form = 1; form < 3; form++) {
            x.sheet(0, form, 2);
            due.is("write", x.write(2, 0), 2);
            items(x, 0, form, 7000, -7000);
        }
        x.sheet(0, 0, 2);
        x.write(2, 0);
        items(x, 0, 0, (byte) 7000, (byte) -7000);
    }

    private static void writeReadsBack() {
        UnlikeDrawn x = drawn("");
        x.sheet(0, 0, 8);
        x.write(0, 0);
        due.is("read of what was written", x.read(0, 1), 8);
        for (int part = 0; part < 8; part++) {
            due.is("PART " + part, x.mean(2, part), x.mean(1, part));
        }
        Due.write(x, 0, "3x");
        x.draw(0, 0, 1, 0);
        x.write(1, 0);
        due.is("what is left out may not be a PLACE", x.read(0, 1), 3);
    }
}
