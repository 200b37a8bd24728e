import java.util.ArrayList;
import java.util.List;

/**
 * All that can be seen of an object, but count() 8. It takes some 210 calls and spoils the object (SETTINGS are told
 * anew, SHEETS get LOST, HANDS go on, DRAWINGS are COPIED), so it is the last that is asked of it.
 */
final class Seen {
    private final Calls x;
    private final List<String> rows = new ArrayList<>();

    private Seen(Calls x) {
        this.x = x;
    }

    static List<String> of(Calls x) {
        Seen seen = new Seen(x);
        seen.counts();
        seen.heads();
        seen.knowers();
        seen.sheets();
        seen.settings();
        seen.texts();
        seen.means();
        return seen.rows;
    }

    private long row(String name, int... args) {
        long told = x.ask(name, args);
        rows.add(Calls.told(name, args) + " is " + told);
        return told;
    }

    private void counts() {
        for (int what = 0; what < 8; what++) {
            row("count", what);
        }
        row("digest");
    }

    private void heads() {
        for (int head = 0; head < x.ask("count", 0); head++) {
            for (int part = 0; part < 8; part++) {
                row("mean", 1 << head, part);
            }
        }
    }

    /** Whom each KNOWS; the digest has the rest. */
    private void knowers() {
        for (int knower = 0; knower < x.ask("count", 2); knower++) {
            for (int head = 0; head < x.ask("count", 0); head++) {
                row("stands", knower, head, 1, 0);
            }
        }
    }

    private void sheets() {
        for (int s = 0; s < 4; s++) {
            for (int form = 0; form < 3; form++) {
                long item = row("get", s, form, 0);
                for (int i = 1; item != Integer.MIN_VALUE; i++) {
                    item = row("get", s, form, i);
                }
                // tells a SHEET that is LOST, has another FORM, or has come to its end
                row("count", 8);
            }
            row("lose", s);
        }
    }

    private void settings() {
        for (int what = 0; what < 3; what++) {
            row("set", what, 1);
        }
    }

    /** How a text goes on tells more of it than what it says now. */
    private void texts() {
        for (int hand = 0; hand < 4; hand++) {
            row("type", hand, '0');
            row("fault", hand);
        }
    }

    /** By a HAND with +0 a copy has the MEAN that its DRAWING was drawn over, if there may be as many copies. */
    private void means() {
        int drawings = (int) x.ask("count", 1);
        if (2 * drawings > 30) {
            return;
        }
        x.write(0, "*+0");
        for (int drawing = 0; drawing < drawings; drawing++) {
            int copy = (int) row("copied", 0, drawing, 99);
            for (int part = 0; part < 8; part++) {
                row("line", copy, part);
            }
        }
    }
}
