import java.util.function.Consumer;

/** Calls that are made on a new object ahead of what is tested, and what there is behind them. */
enum Scene {
    /** A new object. */
    NEW(0, 0, 0, 0, Scene::nothing),
    /** Some of everything; HEAD 2 is one that KNOWER 0 does not KNOW; SHEET 2 is LOST. */
    SOME(3, 3, 2, 20, Scene::some),
    /** As much of everything as there may be. */
    ALL(8, 30, 4, 98, Scene::all);

    final int heads;
    final int drawings;
    final int knowers;
    final int year;
    final Consumer<Calls> calls;

    Scene(int heads, int drawings, int knowers, int year, Consumer<Calls> calls) {
        this.heads = heads;
        this.drawings = drawings;
        this.knowers = knowers;
        this.year = year;
        this.calls = calls;
    }

    private static void nothing(Calls x) {
        // a new object is as it is
    }

    private static void some(Calls x) {
        x.head(80, 20, 55);
        x.head(20, 90);
        x.head(50, 40, 50, 50, 50, 50, 50, 99);
        x.write(0, "0+20;5x");
        x.write(1, "*-9");
        x.write(2, "1-");
        x.ask("draw", 0, 0, 7, 10);
        x.ask("draw", 3, 1, 3, 12);
        x.ask("copied", 1, 0, 20);
        x.ask("knower", 7, 3);
        x.ask("knower", 1, 4);
        x.ask("look", 1, 1, 30);
        settingsAndSheets(x);
    }

    private static void settingsAndSheets(Calls x) {
        x.ask("set", 0, 70);
        x.ask("set", 1, 7);
        x.ask("set", 2, 13);
        x.fill(0, 0, 7, 99, -3);
        x.fill(1, 2, 1, 2, 3, 4, 5, 6, 7, 8, 9);
        x.fill(3, 0, 10, 20, 30, 40, 50);
    }

    private static void all(Calls x) {
        for (int head = 0; head < 8; head++) {
            x.head(11 * head, 99 - head);
        }
        x.write(0, "*+11;7x;0-60;1+05;2+10;3+10;4+10;5+10;6x");
        x.write(1, "*+11;7x;0-60;1+05;2+10;3+10;4+10;5+10;6+");
        x.write(2, "*+20;1+10;2+10;3+10;4+10;5+10;6+10;7+100");
        x.write(3, "0+10;1+10;2+10;3+10;4+10;5+10;6+10;7-600");
        for (int drawing = 0; drawing < 30; drawing++) {
            if (drawing % 3 == 2) {
                x.ask("copied", drawing % 4, drawing - 1, 69 + drawing);
            } else {
                x.ask("draw", drawing % 4, drawing % 8, 255, 69 + drawing);
            }
        }
        for (int knower = 0; knower < 4; knower++) {
            x.ask("knower", 255, 255 >> knower);
        }
        settingsAndSheets(x);
    }

    /** The most that a SET may be. */
    int mostSet() {
        return (1 << heads) - 1;
    }
}
