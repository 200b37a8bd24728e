/** Promises 12 to 16. */
final class DrawingsTest {
    private static final Due due = new Due("drawings");

    public static void main(String[] args) {
        draw();
        drawRefusals();
        drawingsStay();
        copied();
        copiedRefusals();
        copiedToTheMost();
        line();
        headAndYear();
        kinds();
        monsters();
        fromAndAges();
        fromChangesWithOdd();
        whose();
        aboutRefusals();
        unlike();
        due.end();
    }

    // promise 12
    private static void draw() {
        UnlikeDrawn x = Due.withHeads(Due.row(60), Due.row(40));
        for (int i = 0; i < 30; i++) {
            due.is("draw " + i, x.draw(0, i % 2, 3, i), i);
        }
        due.is("draw of one more", x.draw(0, 0, 3, 99), UnlikeDrawn.FULL);
        due.is("BAD ahead of FULL", x.draw(0, 0, 3, 28), UnlikeDrawn.BAD);
        due.is("copied, one more", x.copied(0, 0, 99), UnlikeDrawn.FULL);
        due.is("BAD ahead of FULL, copied", x.copied(0, 0, 28), UnlikeDrawn.BAD);
        due.is("count(1)", x.count(1), 30);
        due.is("line(29, 0)", x.line(29, 0), 40);
    }

    private static void drawRefusals() {
        UnlikeDrawn x = Due.withHeads(Due.row());
        due.is("draw(4, 0, 1, 0)", x.draw(4, 0, 1, 0), UnlikeDrawn.BAD);
        due.is("draw(-1, 0, 1, 0)", x.draw(-1, 0, 1, 0), UnlikeDrawn.BAD);
        due.is("draw(0, 1, 1, 0)", x.draw(0, 1, 1, 0), UnlikeDrawn.BAD);
        due.is("draw(0, -1, 1, 0)", x.draw(0, -1, 1, 0), UnlikeDrawn.BAD);
        due.is("draw(0, 0, 0, 0)", x.draw(0, 0, 0, 0), UnlikeDrawn.BAD);
        due.is("draw(0, 0, 2, 0)", x.draw(0, 0, 2, 0), UnlikeDrawn.BAD);
        due.is("draw(0, 0, -1, 0)", x.draw(0, 0, -1, 0), UnlikeDrawn.BAD);
        due.is("draw(0, 0, 1, -1)", x.draw(0, 0, 1, -1), UnlikeDrawn.BAD);
        due.is("draw(0, 0, 1, 100)", x.draw(0, 0, 1, 100), UnlikeDrawn.BAD);
        due.is("count(1) after refusals", x.count(1), 0);
        due.is("draw(0, 0, 1, 98)", x.draw(0, 0, 1, 98), 0);
        due.is("a YEAR less", x.draw(0, 0, 1, 97), UnlikeDrawn.BAD);
        due.is("the same YEAR", x.draw(0, 0, 1, 98), 1);
        due.is("the last YEAR", x.draw(0, 0, 1, 99), 2);
        due.is("a YEAR less again", x.draw(0, 0, 1, 98), UnlikeDrawn.BAD);
    }

    private static void drawingsStay() {
        UnlikeDrawn x = Due.withHeads(Due.row(70), Due.row(50));
        Due.write(x, 0, "0+20");
        x.draw(0, 0, 3, 7);
        x.place(0, 0, 0);
        x.place(1, 0, 99);
        x.wipe(0);
        due.is("line(0, 0) stays", x.line(0, 0), 80);
        due.is("KIND stays", x.about(0, 2), 1);
        x.set(0, 20);
        due.is("off its MEAN, 60, by 20", x.about(0, 3), 0);
        x.set(0, 19);
        due.is("off its MEAN by more than 19", x.about(0, 3), 1);
        due.is("copied over the same MEAN", x.copied(1, 0, 7), 1);
        Due.write(x, 1, "0-5");
        x.copied(1, 0, 7);
        due.is("60 and 20 times -5 by 10", x.line(2, 0), 50);
    }

    // promise 13
    private static void copied() {
        UnlikeDrawn x = Due.withHeads(Due.row(70, 41), Due.row(50, 50));
        Due.write(x, 0, "0+20;5x");
        Due.write(x, 1, "1+15;6x");
        x.draw(0, 0, 3, 1);
        due.is("copied(1, 0, 4)", x.copied(1, 0, 4), 1);
        int[] want = {80, 39, 50, 50, 50, Due.ANY_NONE, Due.ANY_NONE, 50};
        for (int part = 0; part < 8; part++) {
            due.is("line(1, " + part + ")", x.line(1, part), want[part]);
        }
        due.is("HEAD", x.about(1, 0), 0);
        due.is("YEAR", x.about(1, 1), 4);
        due.is("KIND", x.about(1, 2), 4);
        due.is("copied from", x.about(1, 7), 0);
        due.is("copied(0, 1, 4)", x.copied(0, 1, 4), 2);
        due.is("60 and 20 times 20 by 10", x.line(2, 0), 100);
        due.is("copied from a copy", x.about(2, 7), 1);
    }

    private static void copiedRefusals() {
        UnlikeDrawn x = Due.withHeads(Due.row());
        due.is("copied of nothing", x.copied(0, 0, 5), UnlikeDrawn.BAD);
        x.draw(0, 0, 1, 5);
        due.is("copied(4, 0, 5)", x.copied(4, 0, 5), UnlikeDrawn.BAD);
        due.is("copied(-1, 0, 5)", x.copied(-1, 0, 5), UnlikeDrawn.BAD);
        due.is("copied(0, 1, 5)", x.copied(0, 1, 5), UnlikeDrawn.BAD);
        due.is("copied(0, -1, 5)", x.copied(0, -1, 5), UnlikeDrawn.BAD);
        due.is("copied(0, 0, 4)", x.copied(0, 0, 4), UnlikeDrawn.BAD);
        due.is("copied(0, 0, 100)", x.copied(0, 0, 100), UnlikeDrawn.BAD);
        due.is("count(1) after refusals", x.count(1), 1);
        due.is("copied(0, 0, 6)", x.copied(0, 0, 6), 1);
        due.is("draw in a YEAR less than the copy's", x.draw(0, 0, 1, 5), UnlikeDrawn.BAD);
    }

    private static void copiedToTheMost() {
        UnlikeDrawn x = Due.withHeads(Due.row(99, 0), Due.row(0, 99));
        Due.write(x, 0, "*+60");
        Due.write(x, 1, "*-60");
        x.draw(0, 0, 3, 0);
        due.is("49 and 50 times 6", x.line(0, 0), 349);
        due.is("49 and -49 times 6", x.line(0, 1), -245);
        x.copied(0, 0, 0);
        due.is("49 and 300 times 6", x.line(1, 0), 1849);
        due.is("49 and -294 times 6", x.line(1, 1), -1715);
        x.copied(0, 1, 0);
        due.is("7000 at most", x.line(2, 0), 7000);
        due.is("-7000 at least", x.line(2, 1), -7000);
        x.copied(1, 2, 0);
        due.is("-7000 from 7000", x.line(3, 0), -7000);
        due.is("7000 from -7000", x.line(3, 1), 7000);
        x.copied(2, 3, 0);
        due.is("-7000 as it is", x.line(4, 0), -7000);
    }

    // promise 14
    private static void line() {
        UnlikeDrawn x = Due.withHeads(Due.row(10, 20, 30));
        Due.write(x, 0, "1x");
        x.draw(0, 0, 1, 0);
        due.is("line(0, 0)", x.line(0, 0), 10);
        due.is("line(0, 1)", x.line(0, 1), Due.ANY_NONE);
        due.is("line(0, 7)", x.line(0, 7), 50);
        due.is("line(0, 8)", x.line(0, 8), Due.ANY_BAD);
        due.is("line(0, -1)", x.line(0, -1), Due.ANY_BAD);
        due.is("line(1, 0)", x.line(1, 0), Due.ANY_BAD);
        due.is("line(-1, 0)", x.line(-1, 0), Due.ANY_BAD);
    }

    // promise 15
    private static void headAndYear() {
        UnlikeDrawn x = Due.withHeads(Due.row(), Due.row(), Due.row());
        x.draw(0, 2, 1, 0);
        x.draw(0, 1, 7, 99);
        due.is("HEAD of 0", x.about(0, 0), 2);
        due.is("YEAR of 0", x.about(0, 1), 0);
        due.is("HEAD of 1", x.about(1, 0), 1);
        due.is("YEAR of 1", x.about(1, 1), 99);
        due.is("from no DRAWING", x.about(1, 7), UnlikeDrawn.NONE);
    }

    private static void kindIs(String text, int want) {
        // the MEAN of PART 0 is 55, of PART 1 45, of all others 50
        UnlikeDrawn x = Due.withHeads(Due.row(60, 40), Due.row(50, 50));
        Due.write(x, 0, text);
        x.draw(0, 0, 3, 0);
        due.is("KIND by '" + text + "'", x.about(0, 2), want);
        x.copied(0, 0, 0);
        due.is("KIND of a copy by '" + text + "'", x.about(1, 2), 4);
    }

    private static void kinds() {
        kindIs("", 0);
        kindIs("8", 0);
        kindIs("0+11", 0);
        kindIs("0+12", 1);
        kindIs("*+20", 1);
        kindIs("0+0", 1);
        kindIs("0-0", 1);
        kindIs("2-60", 0);
        kindIs("2-60;0+20", 1);
        kindIs("0-1", 2);
        kindIs("0+20;1-10", 2);
        kindIs("0-10;7x", 3);
        kindIs("7x", 3);
        kindIs("*x", 3);
        UnlikeDrawn x = Due.withHeads(Due.row(60), Due.row(50));
        Due.write(x, 0, "*-10");
        x.draw(0, 0, 1, 0);
        due.is("KIND over its own MEAN", x.about(0, 2), 0);
    }

    private static void monsters() {
        UnlikeDrawn x = Due.withHeads(Due.row(80, 80), Due.row(20, 20));
        Due.write(x, 0, "0+20");
        Due.write(x, 1, "1-21;0x");
        Due.write(x, 2, "1+21");
        x.draw(0, 0, 3, 0);
        x.draw(1, 0, 3, 0);
        x.draw(2, 0, 3, 0);
        Due.write(x, 3, "1x");
        x.copied(3, 2, 0);
        due.is("off by 60", x.about(0, 3), 0);
        due.is("off by -63", x.about(1, 3), 1);
        due.is("off by 63", x.about(2, 3), 1);
        due.is("what is left out is not off", x.about(3, 3), 0);
        due.is("MONSTERS", x.count(7), 2);
        x.set(0, 63);
        due.is("MONSTERS with RUIN 63", x.count(7), 0);
        x.set(0, 59);
        due.is("MONSTERS with RUIN 59", x.count(7), 3);
        x.set(0, 1);
        due.is("MONSTERS with RUIN 1", x.count(7), 4);
    }

    private static void fromAndAges() {
        UnlikeDrawn x = Due.withHeads(Due.row(50), Due.row(50));
        int[] heads = {0, 1, 0, 0, 0, 1};
        int[] places = {10, 13, 20, 14, 17, 13};
        for (int i = 0; i < heads.length; i++) {
            x.place(heads[i], 0, places[i]);
            x.draw(0, heads[i], 3, i);
        }
        int[] from = {UnlikeDrawn.NONE, UnlikeDrawn.NONE, 0, 0, 2, 1};
        int[] ages = {0, 0, 1, 1, 2, 1};
        for (int i = 0; i < heads.length; i++) {
            due.is("FROM of " + i, x.about(i, 4), from[i]);
            due.is("AGES of " + i, x.about(i, 5), ages[i]);
        }
        UnlikeDrawn chain = Due.withHeads(Due.row());
        for (int i = 0; i < 30; i++) {
            chain.place(0, 0, 3 * i);
            chain.draw(0, 0, 1, 0);
        }
        due.is("FROM of the last", chain.about(29, 4), 28);
        due.is("AGES of the last", chain.about(29, 5), 29);
    }

    private static void fromChangesWithOdd() {
        UnlikeDrawn x = Due.withHeads(Due.row(50));
        x.draw(0, 0, 1, 0);
        x.place(0, 0, 80);
        Due.write(x, 1, "7x");
        x.draw(1, 0, 1, 0);
        x.place(0, 0, 75);
        x.draw(0, 0, 1, 0);
        due.is("FROM with ODD 20: by 25 or 25", x.about(2, 4), 0);
        x.set(2, 19);
        due.is("FROM with ODD 19", x.about(2, 4), 1);
        due.is("AGES with ODD 19", x.about(2, 5), 2);
        x.set(2, 21);
        due.is("FROM with ODD 21", x.about(2, 4), 0);
        due.is("AGES with ODD 21", x.about(2, 5), 1);
    }

    private static void whose() {
        UnlikeDrawn x = Due.withHeads(Due.row(70, 30), Due.row(50, 50));
        Due.write(x, 1, "*+20");
        Due.write(x, 2, "0x");
        Due.write(x, 3, "*+20");
        x.draw(0, 0, 3, 0);
        x.draw(3, 0, 3, 0);
        x.draw(2, 0, 3, 0);
        due.is("WHOSE is the true one", x.about(0, 6), 0);
        due.is("of like HANDS the least", x.about(1, 6), 1);
        due.is("WHOSE leaves out PART 0", x.about(2, 6), 2);
        x.copied(1, 1, 0);
        due.is("WHOSE is a copy", x.about(3, 6), 1);
        x.place(0, 0, 80);
        x.place(0, 1, 20);
        due.is("with the PLACES as they are now, the MEAN as it was", x.about(1, 6), 0);
        x.wipe(2);
        due.is("with the HANDS as they are now", x.about(2, 6), 0);
        x.set(2, 0);
        due.is("80 and 20 are the true one's", x.about(2, 6), 0);
    }

    private static void aboutRefusals() {
        UnlikeDrawn x = Due.withHeads(Due.row());
        due.is("about(0, 0) of nothing", x.about(0, 0), UnlikeDrawn.BAD);
        x.draw(0, 0, 1, 0);
        due.is("about(0, -1)", x.about(0, -1), UnlikeDrawn.BAD);
        due.is("about(0, 8)", x.about(0, 8), UnlikeDrawn.BAD);
        due.is("about(1, 0)", x.about(1, 0), UnlikeDrawn.BAD);
        due.is("about(-1, 0)", x.about(-1, 0), UnlikeDrawn.BAD);
    }

    // promise 16
    private static void unlike() {
        UnlikeDrawn x = Due.withHeads(Due.row(70, 30), Due.row(10, 90, 55));
        Due.write(x, 1, "0x;2x");
        Due.write(x, 2, "1x;2x");
        x.draw(0, 0, 1, 0);
        x.draw(0, 1, 1, 0);
        x.draw(1, 0, 1, 0);
        x.draw(2, 1, 1, 0);
        due.is("unlike(0, 1)", x.unlike(0, 1), 60 + 60 + 5);
        due.is("unlike(1, 0)", x.unlike(1, 0), 125);
        due.is("unlike(0, 2)", x.unlike(0, 2), 40);
        due.is("unlike(2, 0)", x.unlike(2, 0), 40);
        due.is("unlike(2, 1)", x.unlike(2, 1), 60 + 40);
        due.is("unlike(2, 3)", x.unlike(2, 3), 40);
        due.is("unlike(2, 2)", x.unlike(2, 2), 0);
        x.set(2, 0);
        due.is("unlike(2, 1) with ODD 0", x.unlike(2, 1), 60);
        due.is("unlike(0, 4)", x.unlike(0, 4), UnlikeDrawn.BAD);
        due.is("unlike(4, 0)", x.unlike(4, 0), UnlikeDrawn.BAD);
        due.is("unlike(-1, 0)", x.unlike(-1, 0), UnlikeDrawn.BAD);
        due.is("unlike(0, -1)", x.unlike(0, -1), UnlikeDrawn.BAD);
    }
}
