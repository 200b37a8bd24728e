/**
 * Promises 2 to 36: each number that a call takes, at its least and its most, one beyond each, and at the least and
 * the most int; on a new object, on one with some of everything, and on one that is full. What is outside is refused
 * and changes nothing; what is inside is answered, and changes what is seen, as the Model does.
 */
final class NumberEdgesTest {
    private static final Due due = new Due("edges of numbers");

    /** The least and the most that a number may be, and the refusals of what is below and above. */
    private static final class Range {
        final int least;
        final int most;
        final int below;
        final int above;

        Range(int least, int most, int below, int above) {
            this.least = least;
            this.most = most;
            this.below = below;
            this.above = above;
        }
    }

    private static final Range PART = range(0, 7);
    private static final Range HAND = range(0, 3);
    private static final Range SHEET = range(0, 3);
    private static final Range FORM = range(0, 2);
    private static final Range TENTHS = range(0, 60);
    private static final Range ANY = range(Integer.MIN_VALUE, Integer.MAX_VALUE);

    private final Scene scene;
    private final Refusal refusal;
    private final Range head;
    private final Range set;
    private final Range drawing;
    private final Range knower;
    private final Range year;

    private NumberEdgesTest(Scene scene) {
        this.scene = scene;
        refusal = new Refusal(due, scene.calls);
        head = range(0, scene.heads - 1);
        set = range(1, scene.mostSet());
        drawing = range(0, scene.drawings - 1);
        knower = range(0, scene.knowers - 1);
        year = range(scene.year, 99);
    }

    public static void main(String[] args) {
        for (Scene scene : Scene.values()) {
            NumberEdgesTest test = new NumberEdgesTest(scene);
            test.heads();
            test.hands();
            test.drawings();
            test.knowers();
            test.years();
            test.sheets();
        }
        due.end();
    }

    private static Range range(int least, int most) {
        return new Range(least, most, Refusal.BAD, Refusal.BAD);
    }

    /** Of a SHEET that is LOST no item is looked for. */
    private Range item(int least, int most) {
        int refused = scene == Scene.NEW ? Refusal.NULL : Refusal.INDEX;
        return new Range(least, most, refused, refused);
    }

    private static int[] args(int... args) {
        return args;
    }

    private void heads() {
        edges("place", args(0, 0, 10), head, PART, range(0, 99));
        edges("read", args(0, 0), SHEET, head);
        edges("mean", args(1, 0), set, PART);
        edges("plainest", args(1), set);
        edges("witness", args(0, 1, 5), head, set, range(0, 99));
    }

    private void hands() {
        edges("type", args(3, 48), HAND, range(0, 255));
        edges("wipe", args(0), HAND);
        edges("fault", args(0), HAND);
        edges("tenths", args(0, 0), HAND, PART);
        edges("drawn", args(0, 0, 1, 0), HAND, head, set, PART);
        edges("set", args(0, 50), range(0, 2), range(1, 99));
        edges("set", args(1, 50), range(0, 2), range(1, 60));
        edges("set", args(2, 50), range(0, 2), range(0, 99));
    }

    private void drawings() {
        edges("draw", args(0, 0, 1, 98), HAND, head, set, year);
        edges("copied", args(0, 0, 98), HAND, drawing, year);
        edges("line", args(0, 0), drawing, PART);
        edges("about", args(0, 0), drawing, range(0, 7));
        edges("unlike", args(0, 0), drawing, drawing);
        edges("write", args(0, 0), drawing, SHEET);
    }

    private void knowers() {
        edges("knower", args(1, 1), set, range(0, scene.mostSet()));
        edges("look", args(0, 0, 5), knower, drawing, range(0, 60));
        edges("leans", args(0, 0), knower, PART);
        edges("score", args(0, 0, 0, 0), knower, drawing, head, range(0, 1));
        edges("named", args(0, 0, 0), knower, drawing, range(0, 1));
        edges("much", args(0, 0, 1, 0), knower, head, set, range(0, 2));
        edges("few", args(0, 0, 1, 10), knower, head, set, TENTHS);
        edges("stands", args(0, 0, 1, 10), knower, head, set, TENTHS);
    }

    private void years() {
        edges("grows", args(0, 0, 0), head, PART, range(0, 1));
        edges("back", args(0, 0, 0), head, HAND, PART);
        edges("near", args(0, 0), head, HAND);
    }

    private void sheets() {
        edges("sheet", args(0, 0, 5), SHEET, FORM, new Range(0, 60, Refusal.SIZE, Refusal.BAD));
        edges("lose", args(0), SHEET);
        edges("lay", args(0, 0, 0, 5), SHEET, FORM, item(0, 2), ANY);
        edges("lay", args(1, 2, 0, 5), SHEET, FORM, item(0, 8), ANY);
        edges("get", args(0, 0, 0), SHEET, FORM, item(0, 2));
        edges("get", args(1, 2, 0), SHEET, FORM, item(0, 8));
        edges("copy", args(0, 1, 3, 2, 2), SHEET, item(0, 1), SHEET, item(0, 3), item(0, 2));
        edges("copy", args(3, 1, 0, 2, 1), SHEET, item(0, 4), SHEET, item(0, 2), item(0, 1));
        edges("count", args(0), range(0, 8));
    }

    private void edges(String name, int[] args, Range... ranges) {
        for (int i = 0; i < args.length; i++) {
            Range range = ranges[i];
            if (range != ANY) {
                refusal.is(range.below, name, with(args, i, range.least - 1));
                refusal.is(range.below, name, with(args, i, Integer.MIN_VALUE));
                refusal.is(range.above, name, with(args, i, range.most + 1));
                refusal.is(range.above, name, with(args, i, Integer.MAX_VALUE));
            }
            if (range.least <= range.most) {
                asTheModel(name, with(args, i, range.least));
                asTheModel(name, with(args, i, range.most));
            }
        }
    }

    private void asTheModel(String name, int[] told) {
        UnlikeDrawn x = new UnlikeDrawn();
        Model model = new Model();
        scene.calls.accept(Calls.of(x));
        scene.calls.accept(Calls.of(model));
        String where = scene + ": " + Calls.told(name, told);
        due.is(where, Calls.Face.ask(x, name, told), model.call(name, told));
        due.is("count(8) behind " + where, x.count(8), model.call("count", args(8)));
        String after = String.join("\n", Seen.of(Calls.of(x)));
        due.same("behind " + where, after, String.join("\n", Seen.of(Calls.of(model))));
    }

    private static int[] with(int[] args, int i, int v) {
        int[] told = args.clone();
        told[i] = v;
        return told;
    }
}
