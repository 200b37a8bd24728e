import java.util.ArrayList;
import java.util.List;

/** Promises 36 and 37: a test for each boundary case of count() and digest(). */
final class CountsEdgesTest {
    private static final Due due = new Due("edges of counts");
    /** An object is used for 512 calls at most; the scene has some of them. */
    private static final int MOST_ASKED = 250;

    public static void main(String[] args) {
        countsOfNoneAndAll();
        countsOfBytes();
        monstersOfNoneAndAll();
        eachFindingIsTheLatest();
        nothingElseIsAFinding();
        goodCallsKeepTheFinding();
        digestOfNothing();
        digestAsAllIsTold();
        digestTellsNoFinding();
        digestChangesNothing();
        digestTellsOfEachThing();
        due.end();
    }

    private static UnlikeDrawn made(Scene scene) {
        UnlikeDrawn x = new UnlikeDrawn();
        scene.calls.accept(Calls.of(x));
        return x;
    }

    // promise 36
    private static void countsOfNoneAndAll() {
        for (Scene scene : Scene.values()) {
            UnlikeDrawn x = made(scene);
            due.is(scene + ": HEADS", x.count(0), scene.heads);
            due.is(scene + ": DRAWINGS", x.count(1), scene.drawings);
            due.is(scene + ": KNOWERS", x.count(2), scene.knowers);
            due.is(scene + ": FINDING", x.count(8), 0);
            due.is(scene + ": -1", x.count(-1), UnlikeDrawn.BAD);
            due.is(scene + ": 9", x.count(9), UnlikeDrawn.BAD);
        }
    }

    private static void countsOfBytes() {
        for (int hand = 0; hand < 4; hand++) {
            UnlikeDrawn x = new UnlikeDrawn();
            for (int many = 1; many <= 41; many++) {
                x.type(hand, 0);
                for (int other = 0; other < 4; other++) {
                    due.is("bytes of " + other, x.count(3 + other), other == hand ? Math.min(many, 40) : 0);
                }
            }
        }
    }

    private static void monstersOfNoneAndAll() {
        UnlikeDrawn x = Due.withHeads(Due.row(99), Due.row(0));
        due.is("without DRAWINGS", x.count(7), 0);
        for (int i = 0; i < 30; i++) {
            x.draw(0, 0, 2, 0);
            due.is("each is one", x.count(7), i + 1);
        }
        x.set(0, 99);
        due.is("none with RUIN 99", x.count(7), 0);
        x.set(0, 98);
        due.is("all with RUIN 98", x.count(7), 30);
    }

    private static void eachFindingIsTheLatest() {
        UnlikeDrawn x = made(Scene.SOME);
        due.is("before any", x.count(8), 0);
        int[] order = {5, 1, 2, 3, 4, 3, 2, 1, 5, 5};
        for (int finding : order) {
            due.is("the FINDING " + finding, find(x, finding), -10 - finding);
            due.is("count(8)", x.count(8), finding);
            due.is("count(8) again", x.count(8), finding);
        }
    }

    private static int find(UnlikeDrawn x, int finding) {
        switch (finding) {
            case 1: return x.lose(2);
            case 2: return x.lay(0, 0, 3, 1);
            case 3: return x.lay(0, 2, 0, 1);
            case 4: return x.copy(0, 0, 1, 0, 1);
            default: return x.sheet(0, 0, -1);
        }
    }

    private static void nothingElseIsAFinding() {
        UnlikeDrawn x = made(Scene.ALL);
        x.head();
        x.type(0, 0);
        x.draw(0, 0, 1, 99);
        x.copied(0, 0, 99);
        x.knower(1, 1);
        x.place(8, 0, 0);
        x.score(3, 0, 7, 0);
        x.named(3, 0, 1);
        x.sheet(4, 0, -1);
        x.sheet(0, 0, 61);
        x.get(4, 0, 0);
        x.lay(0, 3, 0, 0);
        x.count(9);
        due.is("BAD, NOT and FULL are none", x.count(8), 0);
    }

    private static void goodCallsKeepTheFinding() {
        UnlikeDrawn x = made(Scene.SOME);
        x.copy(0, 0, 1, 0, 1);
        x.head();
        x.sheet(2, 1, 4);
        x.lay(2, 1, 0, 4);
        x.get(2, 1, 0);
        x.lose(2);
        x.copy(0, 0, 3, 0, 1);
        x.write(0, 0);
        x.read(0, 0);
        x.digest();
        due.is("count(8)", x.count(8), 4);
    }

    // promise 37
    private static void digestOfNothing() {
        long h = 17;
        for (int i = 0; i < 8; i++) {
            h = 31 * h;
        }
        for (int hand = 0; hand < 4; hand++) {
            h = 31 * h - 1;
            for (int part = 0; part < 8; part++) {
                h = 31 * h + 10;
            }
        }
        due.is("digest() of a new one", new UnlikeDrawn().digest(), h);
    }

    /** Asks one thing after the other of objects on which the same calls have been made. */
    private static final class Teller {
        private final Scene scene;
        private Calls x;
        private int asked = MOST_ASKED;
        private long h = 17;

        Teller(Scene scene) {
            this.scene = scene;
        }

        void tell(String name, int... args) {
            if (asked == MOST_ASKED) {
                x = Calls.of(made(scene));
                asked = 0;
            }
            asked++;
            h = 31 * h + x.ask(name, args);
        }
    }

    private static void digestAsAllIsTold() {
        for (Scene scene : Scene.values()) {
            Teller teller = new Teller(scene);
            for (int what = 0; what < 8; what++) {
                teller.tell("count", what);
            }
            for (int hand = 0; hand < 4; hand++) {
                teller.tell("fault", hand);
                parts(teller, "tenths", hand);
            }
            for (int head = 0; head < scene.heads; head++) {
                teller.tell("near", head, 0);
                teller.tell("witness", head, 1, 9);
            }
            for (int drawing = 0; drawing < scene.drawings; drawing++) {
                parts(teller, "about", drawing);
                parts(teller, "line", drawing);
            }
            for (int knower = 0; knower < scene.knowers; knower++) {
                parts(teller, "leans", knower);
                for (int drawing = 0; drawing < scene.drawings; drawing++) {
                    teller.tell("named", knower, drawing, 0);
                    teller.tell("named", knower, drawing, 1);
                }
            }
            due.is(scene + ": digest()", made(scene).digest(), teller.h);
        }
    }

    private static void parts(Teller teller, String name, int of) {
        for (int part = 0; part < 8; part++) {
            teller.tell(name, of, part);
        }
    }

    private static void digestTellsNoFinding() {
        UnlikeDrawn x = made(Scene.SOME);
        long before = x.digest();
        for (int finding = 1; finding <= 5; finding++) {
            find(x, finding);
            due.is("behind the FINDING " + finding, x.digest(), before);
        }
        x.lose(0);
        x.sheet(2, 2, 9);
        due.is("behind SHEETS", x.digest(), before);
        x.set(1, 60);
        due.is("behind LAG", x.digest(), before);
    }

    private static void digestChangesNothing() {
        UnlikeDrawn x = made(Scene.SOME);
        x.digest();
        x.digest();
        due.same("behind digest()", Seen.of(Calls.of(x)).toString(), Seen.of(Calls.of(made(Scene.SOME))).toString());
    }

    private static void digestTellsOfEachThing() {
        String[] names = {"head", "place", "type", "wipe", "draw", "copied", "knower", "look", "set"};
        int[][] args = {{}, {0, 0, 0}, {3, '*'}, {0}, {0, 0, 1, 99}, {0, 0, 99}, {1, 1}, {0, 0, 60}, {0, 1}};
        List<Long> seen = new ArrayList<>();
        seen.add(made(Scene.SOME).digest());
        for (int i = 0; i < names.length; i++) {
            UnlikeDrawn x = made(Scene.SOME);
            Calls.Face.ask(x, names[i], args[i]);
            long digest = x.digest();
            due.is("digest() is new behind " + Calls.told(names[i], args[i]), seen.contains(digest) ? 1 : 0, 0);
            seen.add(digest);
        }
    }
}
