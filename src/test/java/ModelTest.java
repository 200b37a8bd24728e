import java.util.Random;

/** Many runs of 512 calls by chance (the same ones each time), each answer beside the one of the Model. */
final class ModelTest {
    private static final int RUNS = 400;
    private static final int CALLS = 512;
    private static final String[] PIECES = {
        "*+15", "0+30", "1x", "5-10", "*-10", "*x", "7+60", "2-60", "3+0", "4-0", "*+60", "6+5", "0x", "*+9", "1+61",
        "8+1", "3", "2+", "*+123", "",
    };
    private static final String[] FACE = Calls.Face.names();
    private static final int[] WILD = {-1, -2, Integer.MIN_VALUE, Integer.MAX_VALUE, 1000, 256, 100, 61, 60, 31, 8, 4};
    /** Calls that make something; without them most others would be refused. */
    private static final String[] MAKERS = {
        "head", "place", "place", "place", "draw", "draw", "copied", "knower", "look", "sheet", "lay", "lay", "HAND",
    };

    private final Due due;
    private final Random chance;
    private final int run;
    private final boolean tame;
    private final UnlikeDrawn x = new UnlikeDrawn();
    private final Model model = new Model();
    private int made;
    private int year;

    private ModelTest(Due due, int run) {
        this.due = due;
        this.run = run;
        this.chance = new Random(run);
        this.tame = run % 4 != 0;
    }

    public static void main(String[] args) {
        Due due = new Due("model");
        for (int run = 1; run <= RUNS && due.wrong() < 20; run++) {
            new ModelTest(due, run).calls();
        }
        due.end();
    }

    private void calls() {
        int heads = chance.nextInt(9);
        while (made < CALLS - 60) {
            if (heads > 0) {
                heads--;
                ask("head");
            }
            String maker = MAKERS[chance.nextInt(MAKERS.length)];
            if (maker.equals("HAND")) {
                typePieces();
            } else if (!maker.equals("head") || chance.nextInt(20) == 0) {
                ask(maker);
            }
            ask(FACE[chance.nextInt(FACE.length)]);
        }
        ask("digest");
    }

    private void typePieces() {
        int hand = chance.nextInt(4);
        if (chance.nextInt(3) > 0) {
            asked("wipe", hand);
        }
        String text = PIECES[chance.nextInt(PIECES.length)];
        if (chance.nextInt(3) == 0) {
            text = text + ";" + PIECES[chance.nextInt(PIECES.length - 1)];
        }
        for (char b : text.toCharArray()) {
            asked("type", hand, b);
        }
        asked("fault", hand);
    }

    private void ask(String name) {
        int[] args = new int[Calls.Face.arguments(name)];
        for (int i = 0; i < args.length; i++) {
            args[i] = argument(name, i);
        }
        if (!tame && args.length > 0 && chance.nextInt(4) == 0) {
            args[chance.nextInt(args.length)] = WILD[chance.nextInt(WILD.length)];
        }
        asked(name, args);
    }

    private void asked(String name, int... args) {
        String told = "run " + run + ", call " + made + ": " + Calls.told(name, args);
        made++;
        due.is(told, Calls.Face.ask(x, name, args), model.call(name, args));
        if (made % 8 == 0) {
            made++;
            due.is("count(8) behind " + told, x.count(8), model.call("count", new int[] {8}));
        }
    }

    /** An argument that may mostly be told, now and then one beyond. */
    private int argument(String name, int i) {
        String kinds = kinds(name);
        switch (kinds.charAt(i)) {
            case 'h': return under(x.count(0));
            case 'p': return under(8);
            case 'H': return under(4);
            case 'S': return x.count(0) == 0 ? under(3) : 1 + under((1 << x.count(0)) - 1);
            case 'K': return under(1 << x.count(0));
            case 'd': return under(x.count(1));
            case 'k': return under(x.count(2));
            case 's': return under(4);
            case 'f': return under(3);
            case 'i': return under(12);
            case 'n': return chance.nextInt(12) == 0 ? 58 + chance.nextInt(4) : under(12);
            case 'v': return chance.nextInt(6) == 0 ? chance.nextInt() : chance.nextInt(100);
            case 'P': return chance.nextInt(4) == 0 ? 99 * chance.nextInt(2) : under(100);
            case 't': return under(61);
            case '2': return under(2);
            case '3': return under(3);
            case '8': return under(8);
            case '9': return under(9);
            case 'w': return 1 + under(59);
            case 'b': return under(256);
            case 'y': return nextYear();
            default: throw new IllegalArgumentException(name);
        }
    }

    private int nextYear() {
        year += chance.nextInt(4) == 0 ? chance.nextInt(8) : 0;
        return chance.nextInt(30) == 0 ? year - 1 : Math.min(year, 99);
    }

    private int under(int bound) {
        if (chance.nextInt(60) == 0) {
            return chance.nextInt(2) == 0 ? -1 : bound;
        }
        return bound <= 0 ? 0 : chance.nextInt(bound);
    }

    private static String kinds(String name) {
        switch (name) {
            case "place": return "hpP";
            case "read": return "sh";
            case "mean": return "Sp";
            case "type": return "Hb";
            case "wipe": case "fault": return "H";
            case "tenths": return "Hp";
            case "drawn": return "HhSp";
            case "set": return "3w";
            case "draw": return "HhSy";
            case "copied": return "Hdy";
            case "line": return "dp";
            case "about": return "d8";
            case "unlike": return "dd";
            case "knower": return "SK";
            case "look": return "kdt";
            case "leans": return "kp";
            case "score": return "kdh2";
            case "named": return "kd2";
            case "much": return "khS3";
            case "few": case "stands": return "khSt";
            case "grows": return "hp2";
            case "back": return "hHp";
            case "near": return "hH";
            case "witness": return "hSt";
            case "plainest": return "S";
            case "sheet": return "sfn";
            case "lose": return "s";
            case "lay": return "sfiv";
            case "get": return "sfi";
            case "copy": return "sisin";
            case "write": return "ds";
            case "count": return "9";
            default: return "";
        }
    }
}
