/** Promises 30 to 37. */
final class SheetsTest {
    private static final Due due = new Due("sheets");
    private static final int LEAST = Integer.MIN_VALUE;

    public static void main(String[] args) {
        sheet();
        sheetRefusals();
        lose();
        lay();
        layRefusals();
        get();
        copy();
        copyOntoItself();
        copyRefusals();
        write();
        writeRefusals();
        count();
        digest();
        refusalsChangeNothing();
        due.end();
    }

    private static void items(UnlikeDrawn x, int s, int form, int... want) {
        for (int i = 0; i < want.length; i++) {
            due.is("item " + i + " of SHEET " + s, x.get(s, form, i), want[i]);
        }
    }

    private static void fill(UnlikeDrawn x, int s, int form, int... items) {
        x.sheet(s, form, items.length);
        for (int i = 0; i < items.length; i++) {
            x.lay(s, form, i, items[i]);
        }
    }

    // promise 30
    private static void sheet() {
        UnlikeDrawn x = new UnlikeDrawn();
        due.is("sheet(0, 2, 60)", x.sheet(0, 2, 60), 60);
        due.is("sheet(3, 0, 0)", x.sheet(3, 0, 0), 0);
        for (int i = 0; i < 60; i++) {
            due.is("item at first", x.get(0, 2, i), 0);
            x.lay(0, 2, i, 7);
        }
        due.is("sheet(0, 1, 2)", x.sheet(0, 1, 2), 2);
        items(x, 0, 1, 0, 0);
        due.is("no third item", x.lay(0, 1, 2, 5), Due.INDEX);
        due.is("lose(0)", x.lose(0), 2);
        due.is("lose(3)", x.lose(3), 0);
        x.sheet(0, 1, 60);
        due.is("item 59 is new", x.get(0, 1, 59), 0);
    }

    private static void sheetRefusals() {
        UnlikeDrawn x = new UnlikeDrawn();
        fill(x, 0, 2, 5, 6);
        due.is("sheet(4, 0, 1)", x.sheet(4, 0, 1), UnlikeDrawn.BAD);
        due.is("sheet(-1, 0, 1)", x.sheet(-1, 0, 1), UnlikeDrawn.BAD);
        due.is("sheet(0, 3, 1)", x.sheet(0, 3, 1), UnlikeDrawn.BAD);
        due.is("sheet(0, -1, 1)", x.sheet(0, -1, 1), UnlikeDrawn.BAD);
        due.is("sheet(0, 0, 61)", x.sheet(0, 0, 61), UnlikeDrawn.BAD);
        due.is("BAD ahead of SIZE", x.sheet(0, 3, -1), UnlikeDrawn.BAD);
        due.is("count(8) after BAD", x.count(8), 0);
        due.is("sheet(0, 0, -1)", x.sheet(0, 0, -1), Due.SIZE);
        due.is("count(8) after SIZE", x.count(8), 5);
        due.is("sheet(1, 0, least)", x.sheet(1, 0, LEAST), Due.SIZE);
        due.is("it is LOST still", x.lose(1), Due.NULL);
        items(x, 0, 2, 5, 6);
    }

    // promise 31
    private static void lose() {
        UnlikeDrawn x = new UnlikeDrawn();
        due.is("lose(1) of a LOST one", x.lose(1), Due.NULL);
        due.is("count(8)", x.count(8), 1);
        x.sheet(1, 0, 7);
        due.is("lose(1)", x.lose(1), 7);
        due.is("lose(1) again", x.lose(1), Due.NULL);
        due.is("lose(-1)", x.lose(-1), UnlikeDrawn.BAD);
        due.is("lose(4)", x.lose(4), UnlikeDrawn.BAD);
    }

    // promise 32
    private static void lay() {
        UnlikeDrawn x = new UnlikeDrawn();
        int[] told = {127, 128, 255, 256, -129, 32768, -32769, 65535, 2147483647, LEAST, -1};
        int[] bytes = {127, -128, -1, 0, 127, 0, -1, -1, -1, 0, -1};
        int[] shorts = {127, 128, 255, 256, -129, -32768, 32767, -1, -1, 0, -1};
        for (int form = 0; form < 3; form++) {
            x.sheet(form, form, told.length);
            for (int i = 0; i < told.length; i++) {
                due.is("lay of " + told[i], x.lay(form, form, i, told[i]), 1);
            }
        }
        items(x, 0, 0, bytes);
        items(x, 1, 1, shorts);
        items(x, 2, 2, told);
    }

    private static void layRefusals() {
        UnlikeDrawn x = new UnlikeDrawn();
        fill(x, 0, 1, 3, 4);
        due.is("lay(4, 1, 0, 0)", x.lay(4, 1, 0, 0), UnlikeDrawn.BAD);
        due.is("lay(-1, 1, 0, 0)", x.lay(-1, 1, 0, 0), UnlikeDrawn.BAD);
        due.is("lay(0, 3, 0, 0)", x.lay(0, 3, 0, 0), UnlikeDrawn.BAD);
        due.is("lay(0, -1, 0, 0)", x.lay(0, -1, 0, 0), UnlikeDrawn.BAD);
        due.is("BAD ahead of NULL", x.lay(1, 3, 0, 0), UnlikeDrawn.BAD);
        due.is("count(8) after BAD", x.count(8), 0);
        due.is("NULL ahead of INDEX", x.lay(1, 0, -1, 0), Due.NULL);
        due.is("count(8) after NULL", x.count(8), 1);
        due.is("CAST", x.lay(0, 0, 0, 9), Due.CAST);
        due.is("count(8) after CAST", x.count(8), 3);
        due.is("CAST ahead of INDEX", x.lay(0, 2, 2, 9), Due.CAST);
        due.is("INDEX below 0", x.lay(0, 1, -1, 9), Due.INDEX);
        due.is("count(8) after INDEX", x.count(8), 2);
        due.is("INDEX of none", x.lay(0, 1, 2, 9), Due.INDEX);
        due.is("INDEX of none by far", x.lay(0, 1, 2147483647, 9), Due.INDEX);
        items(x, 0, 1, 3, 4);
        due.is("count(8) after good calls", x.count(8), 2);
    }

    // promise 33
    private static void get() {
        UnlikeDrawn x = new UnlikeDrawn();
        fill(x, 0, 2, 3, LEAST);
        due.is("get(0, 2, 0)", x.get(0, 2, 0), 3);
        due.is("get(0, 2, 1)", x.get(0, 2, 1), LEAST);
        due.is("get(4, 2, 0)", x.get(4, 2, 0), LEAST);
        due.is("get(-1, 2, 0)", x.get(-1, 2, 0), LEAST);
        due.is("get(0, 3, 0)", x.get(0, 3, 0), LEAST);
        due.is("get(0, -1, 0)", x.get(0, -1, 0), LEAST);
        due.is("count(8) after BAD", x.count(8), 0);
        due.is("NULL", x.get(1, 2, 0), LEAST);
        due.is("count(8) after NULL", x.count(8), 1);
        due.is("INDEX", x.get(0, 2, 2), LEAST);
        due.is("count(8) after INDEX", x.count(8), 2);
        due.is("CAST ahead of INDEX", x.get(0, 1, -1), LEAST);
        due.is("count(8) after CAST", x.count(8), 3);
        due.is("INDEX below 0", x.get(0, 2, -1), LEAST);
        due.is("count(8) after INDEX again", x.count(8), 2);
    }

    // promise 34
    private static void copy() {
        UnlikeDrawn x = new UnlikeDrawn();
        fill(x, 0, 1, 1, 2, 3, 4);
        fill(x, 1, 1, 10, 20, 30);
        due.is("copy(0, 1, 1, 0, 2)", x.copy(0, 1, 1, 0, 2), 1);
        items(x, 1, 1, 2, 3, 30);
        items(x, 0, 1, 1, 2, 3, 4);
        due.is("copy of all", x.copy(1, 0, 0, 1, 3), 1);
        items(x, 0, 1, 1, 2, 3, 30);
        due.is("copy of none, behind the last", x.copy(0, 4, 1, 3, 0), 1);
        due.is("copy of none, i above", x.copy(0, 5, 1, 3, 0), Due.INDEX);
        due.is("copy of none, j above", x.copy(0, 4, 1, 4, 0), Due.INDEX);
        items(x, 1, 1, 2, 3, 30);
    }

    private static void copyOntoItself() {
        UnlikeDrawn x = new UnlikeDrawn();
        fill(x, 2, 0, 1, 2, 3, 4, 5);
        due.is("forwards", x.copy(2, 0, 2, 1, 4), 1);
        items(x, 2, 0, 1, 1, 2, 3, 4);
        due.is("backwards", x.copy(2, 2, 2, 0, 3), 1);
        items(x, 2, 0, 2, 3, 4, 3, 4);
    }

    private static void copyRefusals() {
        UnlikeDrawn x = new UnlikeDrawn();
        fill(x, 0, 0, 1, 2, 3);
        fill(x, 1, 0, 4, 5);
        fill(x, 2, 1, 6, 7);
        due.is("copy(4, 0, 0, 0, 0)", x.copy(4, 0, 0, 0, 0), UnlikeDrawn.BAD);
        due.is("copy(-1, 0, 0, 0, 0)", x.copy(-1, 0, 0, 0, 0), UnlikeDrawn.BAD);
        due.is("copy(0, 0, 4, 0, 0)", x.copy(0, 0, 4, 0, 0), UnlikeDrawn.BAD);
        due.is("BAD ahead of NULL", x.copy(3, 0, -1, 0, 0), UnlikeDrawn.BAD);
        due.is("NULL: s", x.copy(3, 0, 0, 0, 0), Due.NULL);
        due.is("NULL: t, ahead of INDEX", x.copy(0, -1, 3, 0, 0), Due.NULL);
        due.is("STORE, ahead of INDEX", x.copy(0, -1, 2, 0, 0), Due.STORE);
        due.is("count(8) after STORE", x.count(8), 4);
        due.is("STORE of none", x.copy(2, 0, 0, 0, 0), Due.STORE);
        int[][] index = {
            {-1, 0, 1}, {0, -1, 1}, {0, 0, -1}, {0, 0, 3}, {2, 0, 2}, {0, 1, 2}, {3, 0, 1}, {0, 2, 1},
            {2147483647, 0, 1}, {0, 2147483647, 1}, {1, 1, 2147483647}, {LEAST, LEAST, LEAST}, {2, 1, LEAST},
        };
        for (int[] a : index) {
            due.is("copy(0, " + a[0] + ", 1, " + a[1] + ", " + a[2] + ")", x.copy(0, a[0], 1, a[1], a[2]), Due.INDEX);
        }
        due.is("count(8) after INDEX", x.count(8), 2);
        items(x, 0, 0, 1, 2, 3);
        items(x, 1, 0, 4, 5);
    }

    // promise 35
    private static void write() {
        UnlikeDrawn x = Due.withHeads(Due.row(99, 0, 20, 30, 40, 60, 70, 80), Due.row(0, 99));
        Due.write(x, 0, "0-60;1+60;2x");
        x.draw(0, 0, 3, 0);
        due.is("-251", x.line(0, 0), -251);
        due.is("-245", x.line(0, 1), -245);
        x.sheet(0, 2, 10);
        x.lay(0, 2, 8, 77);
        due.is("write of 8", x.write(0, 0), 8);
        items(x, 0, 2, -251, -245, Due.ANY_NONE, 30, 40, 60, 70, 80, 77, 0);
        x.sheet(1, 0, 3);
        due.is("write of 3 bytes", x.write(0, 1), 3);
        items(x, 1, 0, 5, 11, -15);
        x.sheet(1, 1, 8);
        due.is("write of 8 shorts", x.write(0, 1), 8);
        items(x, 1, 1, -251, -245, Due.ANY_NONE, 30, 40, 60, 70, 80);
        x.sheet(1, 1, 0);
        due.is("write of none", x.write(0, 1), 0);
    }

    private static void writeRefusals() {
        UnlikeDrawn x = Due.withHeads(Due.row());
        x.draw(0, 0, 1, 0);
        due.is("write(1, 0)", x.write(1, 0), UnlikeDrawn.BAD);
        due.is("write(-1, 0)", x.write(-1, 0), UnlikeDrawn.BAD);
        due.is("write(0, 4)", x.write(0, 4), UnlikeDrawn.BAD);
        due.is("write(0, -1)", x.write(0, -1), UnlikeDrawn.BAD);
        due.is("count(8) after BAD", x.count(8), 0);
        due.is("write(0, 0)", x.write(0, 0), Due.NULL);
        due.is("count(8) after NULL", x.count(8), 1);
    }

    // promise 36
    private static void count() {
        UnlikeDrawn x = Due.withHeads(Due.row(99), Due.row(0), Due.row(50));
        for (int hand = 0; hand < 4; hand++) {
            Due.write(x, hand, "0+60;1".substring(0, hand + 1));
        }
        x.draw(3, 0, 7, 0);
        x.draw(1, 0, 7, 0);
        x.knower(1, 0);
        x.lose(0);
        int[] want = {3, 2, 1, 1, 2, 3, 4, 1, 1};
        for (int what = 0; what < want.length; what++) {
            due.is("count(" + what + ")", x.count(what), want[what]);
        }
        due.is("count(-1)", x.count(-1), UnlikeDrawn.BAD);
        due.is("count(9)", x.count(9), UnlikeDrawn.BAD);
    }

    // promise 37
    private static long more(long h, long told) {
        return 31 * h + told;
    }

    private static void digest() {
        UnlikeDrawn x = Due.withHeads(Due.row(80, 20), Due.row(20, 80));
        Due.write(x, 0, "0+20;5x");
        Due.write(x, 2, "1-");
        x.draw(0, 0, 3, 1);
        x.draw(1, 1, 3, 2);
        x.copied(0, 0, 3);
        x.knower(3, 3);
        x.knower(1, 2);
        long h = 17;
        int[] counts = {2, 3, 2, 7, 0, 2, 0, 1};
        for (int told : counts) {
            h = more(h, told);
        }
        int[] first = {20, 10, 10, 10, 10, Due.ANY_NONE, 10, 10};
        int[] faults = {UnlikeDrawn.NONE, UnlikeDrawn.NONE, 2, UnlikeDrawn.NONE};
        for (int hand = 0; hand < 4; hand++) {
            h = more(h, faults[hand]);
            for (int part = 0; part < 8; part++) {
                h = more(h, hand == 0 ? first[part] : 10);
            }
        }
        // by HAND 0 HEAD 1 is put back at 35 where it is at 20; HEAD 1 is off HEAD 0 by 60 twice
        int[] heads = {0, 0, 15, 6};
        for (int told : heads) {
            h = more(h, told);
        }
        int[][] drawings = {
            {0, 1, 3, 0, -1, 0, 0, -1, 110, 20, 50, 50, 50, -9999, 50, 50},
            {1, 2, 0, 0, -1, 0, 1, -1, 20, 80, 50, 50, 50, 50, 50, 50},
            {0, 3, 4, 1, 0, 1, 0, 0, 170, 20, 50, 50, 50, -9999, 50, 50},
        };
        for (int[] told : drawings) {
            for (int one : told) {
                h = more(h, one);
            }
        }
        int[][] knowers = {
            // 2700 squared by 1800; 1800 squared by 1800; a MONSTER
            {50, 50, 50, 50, 50, 50, 50, 50, 0, 4050, 1, 1800, -1, -3},
            // d 30 and 0, h -60 and 60; d -60 and 60
            {80, 20, 50, 50, 50, 50, 50, 50, -1, -3, 1, 7200, -1, -3},
        };
        for (int[] told : knowers) {
            for (int one : told) {
                h = more(h, one);
            }
        }
        due.is("digest()", x.digest(), h);
        x.lose(0);
        due.is("digest() does not tell count() 8", x.digest(), h);
    }

    private static void refusalsChangeNothing() {
        UnlikeDrawn x = Due.withHeads(Due.row(80, 20), Due.row(20, 80));
        Due.write(x, 0, "0+20;5x");
        x.draw(0, 0, 3, 1);
        x.knower(3, 3);
        fill(x, 0, 2, 1, 2, 3);
        long before = x.digest();
        x.place(0, 0, 100);
        x.place(2, 0, 1);
        x.read(0, 2);
        x.read(1, 0);
        x.type(0, 256);
        x.wipe(4);
        x.set(0, 100);
        x.set(1, 0);
        x.set(2, -1);
        x.draw(0, 0, 3, 0);
        x.copied(0, 1, 1);
        x.knower(3, 4);
        x.look(0, 0, 61);
        x.sheet(0, 2, -1);
        x.sheet(0, 2, 61);
        x.lay(0, 2, 3, 9);
        x.copy(0, 0, 0, 1, 3);
        x.write(1, 0);
        due.is("digest() after refusals", x.digest(), before);
        items(x, 0, 2, 1, 2, 3);
        due.is("RUIN after refusals", x.set(0, 1), 60);
        due.is("LAG after refusals", x.set(1, 1), 10);
        due.is("ODD after refusals", x.set(2, 1), 20);
    }
}
