import java.util.Arrays;

/** Heads, hands, drawings, knowers and sheets, as ../shared/DOC.md promises them. */
public final class UnlikeDrawn {
    public static final int NONE = -1, BAD = -2, NOT = -3, FULL = -4;

    private static final int PARTS = 8;
    private static final int MOST_HEADS = 8;
    private static final int HANDS = 4;
    private static final int MOST_BYTES = 40;
    private static final int MOST_DRAWINGS = 30;
    private static final int MOST_KNOWERS = 4;
    private static final int SHEETS = 4;
    private static final int MOST_ITEMS = 60;

    private static final int MOST_PLACE = 99;
    private static final int FIRST_PLACE = 50;
    private static final int MOST_TENTHS = 60;
    private static final int TRUE_TENTHS = 10;
    private static final int MOST_DRAWN = 7000;
    private static final int MOST_YEAR = 99;
    private static final int MOST_MINUTES = 60;
    private static final int MOST_OFF = 99;
    /** Seven halvings (cut up) bring 99 to 0; so no PART takes more steps than this. */
    private static final int MOST_STEPS = PARTS * 7;

    /** NONE and BAD where any number is told; NONE also marks a PART that is left out. */
    private static final int LEFT_OUT = -9999;
    private static final int BAD_NUMBER = -10002;
    private static final int BAD_ITEM = -2147483648;
    private static final long LEAST_LONG = -9223372036854775808L;
    private static final long BAD_LONG = LEAST_LONG + 2;
    private static final long NOT_LONG = LEAST_LONG + 3;

    private static final int NULL_FOUND = 1;
    private static final int INDEX_FOUND = 2;
    private static final int CAST_FOUND = 3;
    private static final int STORE_FOUND = 4;
    private static final int SIZE_FOUND = 5;

    private static final int KIND_TRUE = 0;
    private static final int KIND_EXCEEDED = 1;
    private static final int KIND_OPPOSITE = 2;
    private static final int KIND_PARTIAL = 3;
    private static final int KIND_COPIED = 4;

    private final Head[] heads = new Head[MOST_HEADS];
    private final Hand[] hands = new Hand[HANDS];
    private final Sketch[] drawings = new Sketch[MOST_DRAWINGS];
    private final Knower[] knowers = new Knower[MOST_KNOWERS];
    private final Sheet[] sheets = new Sheet[SHEETS];
    private int headCount;
    private int drawingCount;
    private int knowerCount;
    private int ruin = 60;
    private int lag = 10;
    private int odd = 20;
    private int latestFinding;

    /** Rows that calls use again, so that no call makes an object. */
    private final Sketch trial = new Sketch();
    private final int[] meanRow = new int[PARTS];
    private final int[] offRow = new int[PARTS];
    private final Fraction fraction = new Fraction();
    private final Fraction greatest = new Fraction();

    public UnlikeDrawn() {
        for (int i = 0; i < MOST_HEADS; i++) {
            heads[i] = new Head();
        }
        for (int i = 0; i < HANDS; i++) {
            hands[i] = new Hand();
        }
        for (int i = 0; i < MOST_DRAWINGS; i++) {
            drawings[i] = new Sketch();
        }
        for (int i = 0; i < MOST_KNOWERS; i++) {
            knowers[i] = new Knower();
        }
        for (int i = 0; i < SHEETS; i++) {
            sheets[i] = new Sheet();
        }
    }

    // ---- heads, hands

    public int head() {
        if (headCount >= MOST_HEADS) {
            return FULL;
        }
        headCount++;
        return headCount - 1;
    }

    public int place(int head, int part, int v) {
        if (!isHead(head) || !isPart(part) || !isPlace(v)) {
            return BAD;
        }
        int[] places = heads[head].places;
        int was = places[part];
        places[part] = v;
        return was;
    }

    public int read(int s, int head) {
        if (!isSheet(s) || !isHead(head)) {
            return BAD;
        }
        Sheet sheet = sheets[s];
        if (sheet.isLost()) {
            return found(NULL_FOUND);
        }
        int[] places = heads[head].places;
        int many = Math.min(sheet.size, PARTS);
        for (int i = 0; i < many; i++) {
            if (!isPlace(sheet.items[i])) {
                return i;
            }
            places[i] = sheet.items[i];
        }
        return many;
    }

    public int mean(int set, int part) {
        if (!isSet(set) || !isPart(part)) {
            return BAD;
        }
        return meanOf(set, part);
    }

    public int type(int hand, int b) {
        if (!isHand(hand) || b < 0 || b > 255) {
            return BAD;
        }
        if (hands[hand].length >= MOST_BYTES) {
            return FULL;
        }
        hands[hand].append(b);
        return hands[hand].length;
    }

    public int wipe(int hand) {
        if (!isHand(hand)) {
            return BAD;
        }
        int had = hands[hand].length;
        hands[hand].clear();
        return had;
    }

    public int fault(int hand) {
        return isHand(hand) ? hands[hand].fault : BAD;
    }

    public int tenths(int hand, int part) {
        return isHand(hand) && isPart(part) ? hands[hand].tenths[part] : BAD_NUMBER;
    }

    public int drawn(int hand, int head, int set, int part) {
        if (!isHand(hand) || !isHead(head) || !isSet(set) || !isPart(part)) {
            return BAD_NUMBER;
        }
        return drawnAt(meanOf(set, part), heads[head].places[part], hands[hand].tenths[part]);
    }

    public int set(int what, int v) {
        if (what == 0 && v >= 1 && v <= 99) {
            int was = ruin;
            ruin = v;
            return was;
        }
        if (what == 1 && v >= 1 && v <= 60) {
            int was = lag;
            lag = v;
            return was;
        }
        if (what == 2 && v >= 0 && v <= 99) {
            int was = odd;
            odd = v;
            return was;
        }
        return BAD;
    }

    // ---- drawings

    public int draw(int hand, int head, int set, int year) {
        if (!isHand(hand) || !isHead(head) || !isSet(set) || !isNextYear(year)) {
            return BAD;
        }
        if (drawingCount >= MOST_DRAWINGS) {
            return FULL;
        }
        Sketch made = drawings[drawingCount];
        fillMean(set, made.base);
        outline(made, heads[head].places, hands[hand]);
        made.of = head;
        made.year = year;
        made.source = NONE;
        made.kind = kindOf(made, heads[head].places, hands[hand]);
        drawingCount++;
        return drawingCount - 1;
    }

    public int copied(int hand, int drawing, int year) {
        if (!isHand(hand) || !isDrawing(drawing) || !isNextYear(year)) {
            return BAD;
        }
        if (drawingCount >= MOST_DRAWINGS) {
            return FULL;
        }
        Sketch source = drawings[drawing];
        Sketch made = drawings[drawingCount];
        System.arraycopy(source.base, 0, made.base, 0, PARTS);
        outline(made, source.lines, hands[hand]);
        made.of = source.of;
        made.year = year;
        made.source = drawing;
        made.kind = KIND_COPIED;
        drawingCount++;
        return drawingCount - 1;
    }

    public int line(int drawing, int part) {
        return isDrawing(drawing) && isPart(part) ? drawings[drawing].lines[part] : BAD_NUMBER;
    }

    public int about(int drawing, int what) {
        if (!isDrawing(drawing)) {
            return BAD;
        }
        Sketch sketch = drawings[drawing];
        switch (what) {
            case 0: return sketch.of;
            case 1: return sketch.year;
            case 2: return sketch.kind;
            case 3: return sketch.isOffByMoreThan(ruin) ? 1 : 0;
            case 4: return fromOf(drawing);
            case 5: return agesOf(drawing);
            case 6: return whoseIs(sketch);
            case 7: return sketch.source;
            default: return BAD;
        }
    }

    public int unlike(int a, int b) {
        if (!isDrawing(a) || !isDrawing(b)) {
            return BAD;
        }
        return drawings[a].distanceTo(drawings[b], odd);
    }

    // ---- knowers

    public int knower(int set, int known) {
        if (!isSet(set) || (known != 0 && !isSet(known))) {
            return BAD;
        }
        if (knowerCount >= MOST_KNOWERS) {
            return FULL;
        }
        Knower knower = knowers[knowerCount];
        knower.known = known;
        fillMean(set, knower.mean);
        knowerCount++;
        return knowerCount - 1;
    }

    public int look(int knower, int drawing, int minutes) {
        if (!isKnower(knower) || !isDrawing(drawing) || minutes < 0 || minutes > MOST_MINUTES) {
            return BAD;
        }
        knowers[knower].gaze(drawings[drawing], minutes, lag);
        return 1;
    }

    public int leans(int knower, int part) {
        return isKnower(knower) && isPart(part) ? knowers[knower].mean[part] : BAD_NUMBER;
    }

    public long score(int knower, int drawing, int head, int what) {
        if (!isKnower(knower) || !isDrawing(drawing) || !isHead(head) || what < 0 || what > 1) {
            return BAD_LONG;
        }
        if (!knowers[knower].knows(head)) {
            return NOT_LONG;
        }
        knowers[knower].weigh(drawings[drawing], heads[head], fraction);
        return fraction.told(what);
    }

    public int named(int knower, int drawing, int what) {
        if (!isKnower(knower) || !isDrawing(drawing) || what < 0 || what > 1) {
            return BAD;
        }
        int name = nameFor(knowers[knower], drawings[drawing]);
        if (what == 0) {
            return name;
        }
        return name == NONE ? NOT : marginOf(knowers[knower], drawings[drawing], name);
    }

    public int much(int knower, int head, int set, int what) {
        if (!isKnower(knower) || !isHead(head) || !isSet(set) || what < 0 || what > 2) {
            return BAD;
        }
        if (what != 2 && !knowers[knower].knows(head)) {
            return NOT;
        }
        fillMean(set, trial.base);
        if (what == 2) {
            return leastMonster(head);
        }
        return what == 0 ? leastNamed(knowers[knower], head) : bestNamed(knowers[knower], head);
    }

    public int few(int knower, int head, int set, int tenths) {
        int refusal = refusalOfParts(knower, head, set, tenths);
        if (refusal != 0) {
            return refusal;
        }
        fillMean(set, trial.base);
        for (int many = 1; many <= PARTS; many++) {
            for (int bits = 1; bits < 1 << PARTS; bits++) {
                if (Integer.bitCount(bits) == many && isNamedBy(knowers[knower], head, bits, tenths)) {
                    return bits;
                }
            }
        }
        return NONE;
    }

    public int stands(int knower, int head, int set, int tenths) {
        int refusal = refusalOfParts(knower, head, set, tenths);
        if (refusal != 0) {
            return refusal;
        }
        fillMean(set, trial.base);
        int enough = 0;
        for (int part = 0; part < PARTS; part++) {
            if (isNamedBy(knowers[knower], head, 1 << part, tenths)) {
                enough |= 1 << part;
            }
        }
        return enough;
    }

    // ---- years, hands, back

    public long grows(int head, int part, int what) {
        if (!isHead(head) || !isPart(part) || what < 0 || what > 1) {
            return BAD_LONG;
        }
        long many = 0;
        long years = 0;
        long squares = 0;
        long lines = 0;
        long products = 0;
        for (int i = 0; i < drawingCount; i++) {
            Sketch sketch = drawings[i];
            if (sketch.of == head && sketch.has(part)) {
                many++;
                years += sketch.year;
                squares += sketch.year * sketch.year;
                lines += sketch.lines[part];
                products += sketch.year * sketch.lines[part];
            }
        }
        long below = many * squares - years * years;
        if (below == 0) {
            return NOT_LONG;
        }
        fraction.become(many * products - years * lines, below);
        return fraction.told(what);
    }

    public int back(int head, int hand, int part) {
        return isHead(head) && isHand(hand) && isPart(part) ? putBack(head, hand, part) : BAD_NUMBER;
    }

    public int near(int head, int hand) {
        if (!isHead(head) || !isHand(hand)) {
            return BAD;
        }
        int sum = 0;
        for (int part = 0; part < PARTS; part++) {
            int where = putBack(head, hand, part);
            if (where != LEFT_OUT) {
                sum += Math.abs(where - heads[head].places[part]);
            }
        }
        return sum;
    }

    public int witness(int head, int set, int t) {
        if (!isHead(head) || !isSet(set) || t < 0 || t > MOST_OFF) {
            return BAD;
        }
        for (int part = 0; part < PARTS; part++) {
            offRow[part] = Math.abs(heads[head].places[part] - meanOf(set, part));
        }
        for (int step = 0; step < MOST_STEPS; step++) {
            int part = furthestOff();
            if (offRow[part] <= t) {
                return step;
            }
            offRow[part] -= (offRow[part] + 1) / 2;
        }
        return MOST_STEPS;
    }

    public int plainest(int set) {
        if (!isSet(set)) {
            return BAD;
        }
        fillMean(set, meanRow);
        int plain = NONE;
        int least = 0;
        for (int head = 0; head < headCount; head++) {
            if ((set >> head & 1) == 1) {
                int off = heads[head].offFrom(meanRow);
                if (plain == NONE || off < least) {
                    plain = head;
                    least = off;
                }
            }
        }
        return plain;
    }

    // ---- sheets

    public int sheet(int s, int form, int n) {
        if (!isSheet(s) || !isForm(form) || n > MOST_ITEMS) {
            return BAD;
        }
        if (n < 0) {
            return found(SIZE_FOUND);
        }
        sheets[s].begin(form, n);
        return n;
    }

    public int lose(int s) {
        if (!isSheet(s)) {
            return BAD;
        }
        if (sheets[s].isLost()) {
            return found(NULL_FOUND);
        }
        int had = sheets[s].size;
        sheets[s].begin(Sheet.LOST, 0);
        return had;
    }

    public int lay(int s, int form, int i, int v) {
        if (!isSheet(s) || !isForm(form)) {
            return BAD;
        }
        int finding = findingAt(sheets[s], form, i);
        if (finding != 0) {
            return found(finding);
        }
        sheets[s].put(i, v);
        return 1;
    }

    public int get(int s, int form, int i) {
        if (!isSheet(s) || !isForm(form)) {
            return BAD_ITEM;
        }
        int finding = findingAt(sheets[s], form, i);
        if (finding != 0) {
            found(finding);
            return BAD_ITEM;
        }
        return sheets[s].items[i];
    }

    public int copy(int s, int i, int t, int j, int n) {
        if (!isSheet(s) || !isSheet(t)) {
            return BAD;
        }
        Sheet from = sheets[s];
        Sheet to = sheets[t];
        if (from.isLost() || to.isLost()) {
            return found(NULL_FOUND);
        }
        if (from.form != to.form) {
            return found(STORE_FOUND);
        }
        if (!from.hasRun(i, n) || !to.hasRun(j, n)) {
            return found(INDEX_FOUND);
        }
        System.arraycopy(from.items, i, to.items, j, n);
        return 1;
    }

    public int write(int drawing, int s) {
        if (!isDrawing(drawing) || !isSheet(s)) {
            return BAD;
        }
        Sheet sheet = sheets[s];
        if (sheet.isLost()) {
            return found(NULL_FOUND);
        }
        int many = Math.min(sheet.size, PARTS);
        for (int part = 0; part < many; part++) {
            sheet.put(part, drawings[drawing].lines[part]);
        }
        return many;
    }

    public int count(int what) {
        switch (what) {
            case 0: return headCount;
            case 1: return drawingCount;
            case 2: return knowerCount;
            case 3: case 4: case 5: case 6: return hands[what - 3].length;
            case 7: return monsters();
            case 8: return latestFinding;
            default: return BAD;
        }
    }

    public long digest() {
        long h = 17;
        for (int what = 0; what <= 7; what++) {
            h = 31 * h + count(what);
        }
        for (int hand = 0; hand < HANDS; hand++) {
            h = 31 * h + fault(hand);
            for (int part = 0; part < PARTS; part++) {
                h = 31 * h + tenths(hand, part);
            }
        }
        for (int head = 0; head < headCount; head++) {
            h = 31 * h + near(head, 0);
            h = 31 * h + witness(head, 1, 9);
        }
        for (int drawing = 0; drawing < drawingCount; drawing++) {
            h = digestOfDrawing(h, drawing);
        }
        for (int knower = 0; knower < knowerCount; knower++) {
            h = digestOfKnower(h, knower);
        }
        return h;
    }

    // ---- what may be told

    private boolean isHead(int head) {
        return head >= 0 && head < headCount;
    }

    private boolean isDrawing(int drawing) {
        return drawing >= 0 && drawing < drawingCount;
    }

    private boolean isKnower(int knower) {
        return knower >= 0 && knower < knowerCount;
    }

    private boolean isSet(int set) {
        return set > 0 && set < 1 << headCount;
    }

    private boolean isNextYear(int year) {
        int least = drawingCount > 0 ? drawings[drawingCount - 1].year : 0;
        return year >= least && year <= MOST_YEAR;
    }

    private static boolean isPart(int part) {
        return part >= 0 && part < PARTS;
    }

    private static boolean isPlace(int v) {
        return v >= 0 && v <= MOST_PLACE;
    }

    private static boolean isHand(int hand) {
        return hand >= 0 && hand < HANDS;
    }

    private static boolean isSheet(int s) {
        return s >= 0 && s < SHEETS;
    }

    private static boolean isForm(int form) {
        return form >= 0 && form <= 2;
    }

    /** What FEW and STANDS refuse; 0: nothing. */
    private int refusalOfParts(int knower, int head, int set, int tenths) {
        if (!isKnower(knower) || !isHead(head) || !isSet(set) || tenths < 0 || tenths > MOST_TENTHS) {
            return BAD;
        }
        return knowers[knower].knows(head) ? 0 : NOT;
    }

    private int found(int finding) {
        latestFinding = finding;
        return -10 - finding;
    }

    /** The FINDING of an item that is treated as of a FORM; 0: none. */
    private static int findingAt(Sheet sheet, int form, int i) {
        if (sheet.isLost()) {
            return NULL_FOUND;
        }
        if (sheet.form != form) {
            return CAST_FOUND;
        }
        return i < 0 || i >= sheet.size ? INDEX_FOUND : 0;
    }

    // ---- means and lines

    private int meanOf(int set, int part) {
        int sum = 0;
        int many = 0;
        for (int head = 0; head < headCount; head++) {
            if ((set >> head & 1) == 1) {
                sum += heads[head].places[part];
                many++;
            }
        }
        return many == 0 ? 0 : sum / many;
    }

    private void fillMean(int set, int[] row) {
        for (int part = 0; part < PARTS; part++) {
            row[part] = meanOf(set, part);
        }
    }

    private static int drawnAt(int mean, int place, int tenths) {
        if (place == LEFT_OUT || tenths == LEFT_OUT) {
            return LEFT_OUT;
        }
        int where = mean + (place - mean) * tenths / 10;
        return Math.max(-MOST_DRAWN, Math.min(MOST_DRAWN, where));
    }

    private static void outline(Sketch sketch, int[] places, Hand hand) {
        for (int part = 0; part < PARTS; part++) {
            sketch.lines[part] = drawnAt(sketch.base[part], places[part], hand.tenths[part]);
        }
    }

    private static int kindOf(Sketch sketch, int[] places, Hand hand) {
        boolean isTrue = true;
        boolean isOpposite = false;
        for (int part = 0; part < PARTS; part++) {
            if (!sketch.has(part)) {
                return KIND_PARTIAL;
            }
            if (sketch.lines[part] != places[part]) {
                isTrue = false;
            }
            if (places[part] != sketch.base[part] && hand.tenths[part] < 0) {
                isOpposite = true;
            }
        }
        if (isTrue) {
            return KIND_TRUE;
        }
        return isOpposite ? KIND_OPPOSITE : KIND_EXCEEDED;
    }

    private int monsters() {
        int many = 0;
        for (int i = 0; i < drawingCount; i++) {
            if (drawings[i].isOffByMoreThan(ruin)) {
                many++;
            }
        }
        return many;
    }

    // ---- from, ages, whose

    private int fromOf(int drawing) {
        int from = NONE;
        int least = 0;
        for (int i = 0; i < drawing; i++) {
            if (drawings[i].of == drawings[drawing].of) {
                int distance = drawings[i].distanceTo(drawings[drawing], odd);
                if (from == NONE || distance < least) {
                    from = i;
                    least = distance;
                }
            }
        }
        return from;
    }

    private int agesOf(int drawing) {
        int ages = 0;
        int from = fromOf(drawing);
        while (from != NONE && ages < MOST_DRAWINGS) {
            ages++;
            from = fromOf(from);
        }
        return ages;
    }

    private int whoseIs(Sketch sketch) {
        System.arraycopy(sketch.base, 0, trial.base, 0, PARTS);
        int whose = 0;
        int least = 0;
        for (int hand = 0; hand < HANDS; hand++) {
            outline(trial, heads[sketch.of].places, hands[hand]);
            int distance = trial.distanceTo(sketch, odd);
            if (hand == 0 || distance < least) {
                whose = hand;
                least = distance;
            }
        }
        return whose;
    }

    // ---- names

    private int nameFor(Knower knower, Sketch sketch) {
        int name = NONE;
        if (sketch.isOffByMoreThan(ruin)) {
            return name;
        }
        greatest.become(0, 1);
        for (int head = 0; head < headCount; head++) {
            if (knower.knows(head)) {
                knower.weigh(sketch, heads[head], fraction);
                if (fraction.isAbove(greatest)) {
                    greatest.become(fraction.above, fraction.below);
                    name = head;
                }
            }
        }
        return name;
    }

    private int marginOf(Knower knower, Sketch sketch, int name) {
        long own = 0;
        long others = 0;
        for (int head = 0; head < headCount; head++) {
            if (knower.knows(head)) {
                knower.weigh(sketch, heads[head], fraction);
                if (head == name) {
                    own = fraction.cut();
                } else {
                    others = Math.max(others, fraction.cut());
                }
            }
        }
        // by Cauchy and Schwarz a SCORE is at most 8 times 14000 squared, so an int holds it
        return (int) (own - others);
    }

    /** The trial DRAWING, over the MEAN that it has: PARTS of a HEAD, all at the same TENTHS. */
    private void tryParts(int head, int bits, int tenths) {
        for (int part = 0; part < PARTS; part++) {
            int at = (bits >> part & 1) == 1 ? tenths : LEFT_OUT;
            trial.lines[part] = drawnAt(trial.base[part], heads[head].places[part], at);
        }
    }

    private boolean isNamedBy(Knower knower, int head, int bits, int tenths) {
        tryParts(head, bits, tenths);
        return nameFor(knower, trial) == head;
    }

    private int leastNamed(Knower knower, int head) {
        for (int tenths = 0; tenths <= MOST_TENTHS; tenths++) {
            if (isNamedBy(knower, head, (1 << PARTS) - 1, tenths)) {
                return tenths;
            }
        }
        return NONE;
    }

    private int bestNamed(Knower knower, int head) {
        int best = NONE;
        int most = 0;
        for (int tenths = 0; tenths <= MOST_TENTHS; tenths++) {
            if (isNamedBy(knower, head, (1 << PARTS) - 1, tenths)) {
                int margin = marginOf(knower, trial, head);
                if (best == NONE || margin > most) {
                    best = tenths;
                    most = margin;
                }
            }
        }
        return best;
    }

    private int leastMonster(int head) {
        for (int tenths = 0; tenths <= MOST_TENTHS; tenths++) {
            tryParts(head, (1 << PARTS) - 1, tenths);
            if (trial.isOffByMoreThan(ruin)) {
                return tenths;
            }
        }
        return NONE;
    }

    // ---- back, witness

    private int putBack(int head, int hand, int part) {
        int tenths = hands[hand].tenths[part];
        if (tenths == LEFT_OUT || tenths == 0) {
            return LEFT_OUT;
        }
        int sum = 0;
        int many = 0;
        for (int i = 0; i < drawingCount; i++) {
            Sketch sketch = drawings[i];
            if (sketch.of == head && sketch.kind != KIND_COPIED && sketch.has(part)) {
                sum += sketch.base[part] + (sketch.lines[part] - sketch.base[part]) * 10 / tenths;
                many++;
            }
        }
        return many == 0 ? LEFT_OUT : sum / many;
    }

    private int furthestOff() {
        int furthest = 0;
        for (int part = 1; part < PARTS; part++) {
            if (offRow[part] > offRow[furthest]) {
                furthest = part;
            }
        }
        return furthest;
    }

    // ---- digest

    private long digestOfDrawing(long before, int drawing) {
        long h = before;
        for (int what = 0; what <= 7; what++) {
            h = 31 * h + about(drawing, what);
        }
        for (int part = 0; part < PARTS; part++) {
            h = 31 * h + line(drawing, part);
        }
        return h;
    }

    private long digestOfKnower(long before, int knower) {
        long h = before;
        for (int part = 0; part < PARTS; part++) {
            h = 31 * h + leans(knower, part);
        }
        for (int drawing = 0; drawing < drawingCount; drawing++) {
            h = 31 * h + named(knower, drawing, 0);
            h = 31 * h + named(knower, drawing, 1);
        }
        return h;
    }

    private static final class Head {
        final int[] places = new int[PARTS];

        Head() {
            Arrays.fill(places, FIRST_PLACE);
        }

        int offFrom(int[] row) {
            int sum = 0;
            for (int part = 0; part < PARTS; part++) {
                sum += Math.abs(places[part] - row[part]);
            }
            return sum;
        }
    }

    /** A HAND: its text, and what the text says as it is now. */
    private static final class Hand {
        private static final int END = -1;

        final int[] text = new int[MOST_BYTES];
        final int[] tenths = new int[PARTS];
        int length;
        int fault = NONE;

        Hand() {
            Arrays.fill(tenths, TRUE_TENTHS);
        }

        void append(int b) {
            if (length < MOST_BYTES) {
                text[length] = b;
                length++;
                understand();
            }
        }

        void clear() {
            length = 0;
            understand();
        }

        private void understand() {
            Arrays.fill(tenths, TRUE_TENTHS);
            fault = NONE;
            int at = 0;
            boolean more = length > 0;
            for (int piece = 0; more && piece < MOST_BYTES; piece++) {
                at = behindPiece(at);
                if (fault == NONE && at < length && byteAt(at) != ';') {
                    fault = at;
                }
                more = fault == NONE && at < length;
                at++;
            }
            if (fault != NONE) {
                Arrays.fill(tenths, TRUE_TENTHS);
            }
        }

        /** Takes the piece that begins at a place, or tells its FAULT; the place behind it. */
        private int behindPiece(int start) {
            int which = byteAt(start);
            if (which != '*' && (which < '0' || which > '7')) {
                return stopAt(start);
            }
            int sign = byteAt(start + 1);
            if (sign == 'x') {
                mark(which, LEFT_OUT);
                return start + 2;
            }
            if (sign != '+' && sign != '-') {
                return stopAt(start + 1);
            }
            int first = start + 2;
            if (!isFigure(byteAt(first))) {
                return stopAt(first);
            }
            int number = byteAt(first) - '0';
            int behind = first + 1;
            if (isFigure(byteAt(behind))) {
                number = 10 * number + byteAt(behind) - '0';
                behind++;
            }
            if (number > MOST_TENTHS) {
                return stopAt(first);
            }
            mark(which, sign == '-' ? -number : number);
            return behind;
        }

        private int stopAt(int at) {
            fault = at;
            return at;
        }

        private void mark(int which, int much) {
            if (which == '*') {
                Arrays.fill(tenths, much);
            } else if (isPart(which - '0')) {
                tenths[which - '0'] = much;
            }
        }

        private int byteAt(int at) {
            return at >= 0 && at < length ? text[at] : END;
        }

        private static boolean isFigure(int b) {
            return b >= '0' && b <= '9';
        }
    }

    /** A DRAWING, or one that is only tried. */
    private static final class Sketch {
        final int[] base = new int[PARTS];
        final int[] lines = new int[PARTS];
        int of;
        int year;
        int kind;
        int source = NONE;

        boolean has(int part) {
            return lines[part] != LEFT_OUT;
        }

        boolean isOffByMoreThan(int most) {
            for (int part = 0; part < PARTS; part++) {
                if (has(part) && Math.abs(lines[part] - base[part]) > most) {
                    return true;
                }
            }
            return false;
        }

        int distanceTo(Sketch other, int odd) {
            int sum = 0;
            for (int part = 0; part < PARTS; part++) {
                if (has(part) && other.has(part)) {
                    sum += Math.abs(lines[part] - other.lines[part]);
                } else if (has(part) || other.has(part)) {
                    sum += odd;
                }
            }
            return sum;
        }
    }

    private static final class Knower {
        final int[] mean = new int[PARTS];
        int known;

        boolean knows(int head) {
            return (known >> head & 1) == 1;
        }

        void gaze(Sketch sketch, int minutes, int lag) {
            int span = minutes + lag;
            for (int part = 0; part < PARTS && span > 0; part++) {
                if (sketch.has(part)) {
                    mean[part] += (sketch.lines[part] - mean[part]) * minutes / span;
                }
            }
        }

        /** The SCORE of a HEAD for a DRAWING comes to a FRACTION. */
        void weigh(Sketch sketch, Head head, Fraction result) {
            long along = 0;
            long square = 0;
            for (int part = 0; part < PARTS; part++) {
                if (sketch.has(part)) {
                    long h = head.places[part] - mean[part];
                    along += h * (sketch.lines[part] - mean[part]);
                    square += h * h;
                }
            }
            if (along < 0 || square == 0) {
                result.become(0, 1);
            } else {
                result.become(along * along, square);
            }
        }
    }

    /** Above by below, with below above 0. */
    private static final class Fraction {
        /** Euclid needs at most some 92 steps with longs. */
        private static final int MOST_DIVISIONS = 100;

        long above;
        long below = 1;

        void become(long newAbove, long newBelow) {
            above = newAbove;
            below = newBelow;
        }

        long cut() {
            return below == 0 ? 0 : above / below;
        }

        /** Whole numbers first, then what is left: the cross products of all would not fit a long. */
        boolean isAbove(Fraction other) {
            long whole = cut();
            long otherWhole = other.cut();
            if (whole != otherWhole) {
                return whole > otherWhole;
            }
            long rest = above - whole * below;
            long otherRest = other.above - otherWhole * other.below;
            return rest * other.below > otherRest * below;
        }

        /** In lowest terms: above (0) or below (1). */
        long told(int what) {
            long divisor = Math.abs(above);
            long rest = below;
            for (int i = 0; i < MOST_DIVISIONS && rest != 0; i++) {
                long next = divisor % rest;
                divisor = rest;
                rest = next;
            }
            if (divisor == 0) {
                return what == 0 ? 0 : 1;
            }
            return what == 0 ? above / divisor : below / divisor;
        }
    }

    private static final class Sheet {
        static final int LOST = -1;

        final int[] items = new int[MOST_ITEMS];
        int form = LOST;
        int size;

        boolean isLost() {
            return form == LOST;
        }

        void begin(int newForm, int newSize) {
            form = newForm;
            size = newSize;
            Arrays.fill(items, 0);
        }

        boolean hasRun(int first, int many) {
            return first >= 0 && many >= 0 && many <= size && first <= size - many;
        }

        void put(int i, int v) {
            if (i < 0 || i >= size || i >= MOST_ITEMS) {
                return;
            }
            if (form == 0) {
                items[i] = (byte) v;
            } else if (form == 1) {
                items[i] = (short) v;
            } else {
                items[i] = v;
            }
        }
    }
}
