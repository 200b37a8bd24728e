import java.util.List;
import java.util.function.Consumer;

/** Asks for a refusal, and looks whether anything has changed behind it. */
final class Refusal {
    static final int BAD = 0;
    static final int NULL = 1;
    static final int INDEX = 2;
    static final int CAST = 3;
    static final int STORE = 4;
    static final int SIZE = 5;
    static final int NOT = -3;
    static final int FULL = -4;

    private final Due due;
    private final Consumer<Calls> scene;

    /** Refusals are asked of new objects, on each of which the calls of a scene have been made. */
    Refusal(Due due, Consumer<Calls> scene) {
        this.due = due;
        this.scene = scene;
    }

    /** What is BAD, NOT, FULL or the number of a FINDING. */
    void is(int what, String name, int... args) {
        String told = Calls.told(name, args);
        UnlikeDrawn asked = made(what);
        UnlikeDrawn spared = made(what);
        due.is(told, Calls.Face.ask(asked, name, args), answer(what, name));
        due.is("count(8) behind " + told, asked.count(8), what > 0 ? what : spared.count(8));
        List<String> after = Seen.of(Calls.of(asked));
        List<String> before = Seen.of(Calls.of(spared));
        due.is("rows that are seen behind " + told, after.size(), before.size());
        for (int i = 0; i < Math.min(after.size(), before.size()); i++) {
            due.same("behind " + told, after.get(i), before.get(i));
        }
    }

    /** The latest FINDING ahead is another one than the one that is due. */
    private UnlikeDrawn made(int what) {
        UnlikeDrawn x = new UnlikeDrawn();
        scene.accept(Calls.of(x));
        if (what == SIZE) {
            x.get(0, 0, -1);
        } else {
            x.sheet(0, 0, -1);
        }
        return x;
    }

    /** How a refusal is told by a call. */
    static long answer(int what, String name) {
        if (name.equals("get")) {
            return Integer.MIN_VALUE;
        }
        if (what > 0) {
            return -10 - what;
        }
        int refusal = what == BAD ? UnlikeDrawn.BAD : what;
        switch (name) {
            case "tenths": case "drawn": case "line": case "leans": case "back":
                return -10000 + refusal;
            case "score": case "grows":
                return Long.MIN_VALUE - refusal;
            default:
                return refusal;
        }
    }
}
