import java.math.BigInteger;
import java.util.ArrayList;
import java.util.Arrays;
import java.util.List;
import java.util.regex.Matcher;
import java.util.regex.Pattern;

/**
 * The document once more, in another and slower way: everything is worked out anew from what was told, with
 * BigIntegers, lists and patterns, so that a slip of the program is not likely to be made here too.
 */
final class Model {
    private static final String PIECE = "[0-7*](?:[+-][0-9]{1,2}|x)";
    private static final Pattern TEXT = Pattern.compile(PIECE + "(?:;" + PIECE + ")*");
    private static final Pattern NUMBER = Pattern.compile("[+-]([0-9]{1,2})");
    private static final int[] ALL = {0, 1, 2, 3, 4, 5, 6, 7};

    private static final class Picture {
        int head;
        int year;
        int kind;
        int from = -1;
        List<Integer> mean = new ArrayList<>();
        /** null: left out. */
        List<Integer> lines = new ArrayList<>();
    }

    private static final class Person {
        List<Integer> mean;
        int knows;
    }

    private final List<List<Integer>> heads = new ArrayList<>();
    private final String[] hands = {"", "", "", ""};
    private final List<Picture> pictures = new ArrayList<>();
    private final List<Person> persons = new ArrayList<>();
    private final Object[] sheets = new Object[4];
    private final int[] settings = {60, 10, 20};
    private int finding;

    /** The answer to a call by its name. */
    long call(String name, int[] a) {
        switch (name) {
            case "head": return head();
            case "place": return place(a[0], a[1], a[2]);
            case "read": return read(a[0], a[1]);
            case "mean": return set(a[0]) && part(a[1]) ? mean(a[0]).get(a[1]) : -2;
            case "type": return type(a[0], a[1]);
            case "wipe": return wipe(a[0]);
            case "fault": return hand(a[0]) ? fault(hands[a[0]]) : -2;
            case "tenths": return hand(a[0]) && part(a[1]) ? any(tenths(a[0], a[1])) : -10002;
            case "drawn": return drawn(a[0], a[1], a[2], a[3]);
            case "set": return setting(a[0], a[1]);
            case "draw": return draw(a[0], a[1], a[2], a[3]);
            case "copied": return copied(a[0], a[1], a[2]);
            case "line": return picture(a[0]) && part(a[1]) ? any(pictures.get(a[0]).lines.get(a[1])) : -10002;
            case "about": return picture(a[0]) ? about(a[0], a[1]) : -2;
            case "unlike": return picture(a[0]) && picture(a[1]) ? unlike(lines(a[0]), lines(a[1])) : -2;
            case "knower": return knower(a[0], a[1]);
            case "look": return look(a[0], a[1], a[2]);
            case "leans": return person(a[0]) && part(a[1]) ? persons.get(a[0]).mean.get(a[1]) : -10002;
            case "score": return score(a[0], a[1], a[2], a[3]);
            case "named": return named(a[0], a[1], a[2]);
            case "much": return much(a[0], a[1], a[2], a[3]);
            case "few": return few(a[0], a[1], a[2], a[3]);
            case "stands": return stands(a[0], a[1], a[2], a[3]);
            case "grows": return grows(a[0], a[1], a[2]);
            case "back": return head(a[0]) && hand(a[1]) && part(a[2]) ? any(back(a[0], a[1], a[2])) : -10002;
            case "near": return head(a[0]) && hand(a[1]) ? near(a[0], a[1]) : -2;
            case "witness": return witness(a[0], a[1], a[2]);
            case "plainest": return plainest(a[0]);
            case "count": return count(a[0]);
            case "digest": return digest();
            default: return callOfSheets(name, a);
        }
    }

    private long callOfSheets(String name, int[] a) {
        switch (name) {
            case "sheet": return sheet(a[0], a[1], a[2]);
            case "lose": return lose(a[0]);
            case "lay": return lay(a[0], a[1], a[2], a[3]);
            case "get": return get(a[0], a[1], a[2]);
            case "copy": return copy(a[0], a[1], a[2], a[3], a[4]);
            case "write": return write(a[0], a[1]);
            default: throw new IllegalArgumentException(name);
        }
    }

    // ---- what there is

    private static boolean in(int v, int least, int most) {
        return least <= v && v <= most;
    }

    private boolean head(int h) {
        return in(h, 0, heads.size() - 1);
    }

    private static boolean part(int p) {
        return in(p, 0, 7);
    }

    private static boolean hand(int h) {
        return in(h, 0, 3);
    }

    private boolean picture(int d) {
        return in(d, 0, pictures.size() - 1);
    }

    private boolean person(int k) {
        return in(k, 0, persons.size() - 1);
    }

    private boolean set(int set) {
        return set != 0 && those(set);
    }

    private boolean those(int set) {
        for (int bit = 0; bit < 32; bit++) {
            if ((set & 1 << bit) != 0 && bit >= heads.size()) {
                return false;
            }
        }
        return true;
    }

    private boolean year(int y) {
        return in(y, pictures.isEmpty() ? 0 : pictures.get(pictures.size() - 1).year, 99);
    }

    private static boolean isIn(int set, int head) {
        return (set & 1 << head) != 0;
    }

    private static int any(Integer v) {
        return v == null ? -9999 : v;
    }

    private List<Integer> lines(int d) {
        return pictures.get(d).lines;
    }

    // ---- heads, hands

    private int head() {
        if (heads.size() == 8) {
            return -4;
        }
        heads.add(new ArrayList<>(Arrays.asList(50, 50, 50, 50, 50, 50, 50, 50)));
        return heads.size() - 1;
    }

    private int place(int h, int p, int v) {
        return head(h) && part(p) && in(v, 0, 99) ? heads.get(h).set(p, v) : -2;
    }

    private int read(int s, int h) {
        if (!in(s, 0, 3) || !head(h)) {
            return -2;
        }
        if (sheets[s] == null) {
            return find(1);
        }
        int many = 0;
        while (many < 8 && many < size(sheets[s]) && in(item(sheets[s], many), 0, 99)) {
            heads.get(h).set(many, item(sheets[s], many));
            many++;
        }
        return many;
    }

    private List<Integer> mean(int set) {
        List<Integer> mean = new ArrayList<>();
        for (int p : ALL) {
            int sum = 0;
            for (int h = 0; h < heads.size(); h++) {
                sum += isIn(set, h) ? heads.get(h).get(p) : 0;
            }
            mean.add(sum / Integer.bitCount(set));
        }
        return mean;
    }

    private int type(int h, int b) {
        if (!hand(h) || !in(b, 0, 255)) {
            return -2;
        }
        if (hands[h].length() == 40) {
            return -4;
        }
        hands[h] += (char) b;
        return hands[h].length();
    }

    private int wipe(int h) {
        if (!hand(h)) {
            return -2;
        }
        int had = hands[h].length();
        hands[h] = "";
        return had;
    }

    /** The first place where no text goes on from what stands ahead of it, or of a number above 60. */
    private static int fault(String text) {
        if (text.isEmpty()) {
            return -1;
        }
        int stop = -1;
        for (int many = 1; many <= text.length() && stop < 0; many++) {
            Matcher start = TEXT.matcher(text.substring(0, many));
            if (!start.matches() && !start.hitEnd()) {
                stop = many - 1;
            }
        }
        if (stop < 0 && !TEXT.matcher(text).matches()) {
            stop = text.length();
        }
        Matcher number = NUMBER.matcher(stop < 0 ? text : text.substring(0, stop));
        while (number.find()) {
            if (Integer.parseInt(number.group(1)) > 60) {
                return number.start(1);
            }
        }
        return stop;
    }

    private Integer tenths(int h, int p) {
        Integer tenths = 10;
        if (fault(hands[h]) >= 0 || hands[h].isEmpty()) {
            return tenths;
        }
        for (String piece : hands[h].split(";")) {
            if (piece.startsWith("*") || piece.startsWith("" + p)) {
                tenths = piece.endsWith("x") ? null : Integer.valueOf(piece.substring(1));
            }
        }
        return tenths;
    }

    private static Integer drawn(int mean, Integer place, Integer tenths) {
        if (place == null || tenths == null) {
            return null;
        }
        BigInteger off = BigInteger.valueOf(place - mean).multiply(BigInteger.valueOf(tenths));
        int at = mean + off.divide(BigInteger.TEN).intValueExact();
        return at > 7000 ? 7000 : at < -7000 ? -7000 : at;
    }

    private int drawn(int ha, int he, int set, int p) {
        if (!hand(ha) || !head(he) || !set(set) || !part(p)) {
            return -10002;
        }
        return any(drawn(mean(set).get(p), heads.get(he).get(p), tenths(ha, p)));
    }

    private int setting(int what, int v) {
        int[] most = {99, 60, 99};
        if (!in(what, 0, 2) || !in(v, what == 2 ? 0 : 1, most[what])) {
            return -2;
        }
        int was = settings[what];
        settings[what] = v;
        return was;
    }

    // ---- drawings

    private List<Integer> lines(List<Integer> mean, List<Integer> places, int hand) {
        List<Integer> lines = new ArrayList<>();
        for (int p : ALL) {
            lines.add(drawn(mean.get(p), places.get(p), tenths(hand, p)));
        }
        return lines;
    }

    private int draw(int ha, int he, int set, int year) {
        if (!hand(ha) || !head(he) || !set(set) || !year(year)) {
            return -2;
        }
        if (pictures.size() == 30) {
            return -4;
        }
        Picture made = new Picture();
        made.head = he;
        made.year = year;
        made.mean = mean(set);
        made.lines = lines(made.mean, heads.get(he), ha);
        boolean opposite = false;
        for (int p : ALL) {
            Integer tenths = tenths(ha, p);
            opposite |= tenths != null && tenths < 0 && !heads.get(he).get(p).equals(made.mean.get(p));
        }
        made.kind = made.lines.contains(null) ? 3 : made.lines.equals(heads.get(he)) ? 0 : opposite ? 2 : 1;
        pictures.add(made);
        return pictures.size() - 1;
    }

    private int copied(int ha, int d, int year) {
        if (!hand(ha) || !picture(d) || !year(year)) {
            return -2;
        }
        if (pictures.size() == 30) {
            return -4;
        }
        Picture made = new Picture();
        made.head = pictures.get(d).head;
        made.year = year;
        made.from = d;
        made.kind = 4;
        made.mean = pictures.get(d).mean;
        made.lines = lines(made.mean, lines(d), ha);
        pictures.add(made);
        return pictures.size() - 1;
    }

    private int about(int d, int what) {
        Picture picture = pictures.get(d);
        switch (what) {
            case 0: return picture.head;
            case 1: return picture.year;
            case 2: return picture.kind;
            case 3: return monster(picture) ? 1 : 0;
            case 4: return from(d);
            case 5: return from(d) < 0 ? 0 : 1 + about(from(d), 5);
            case 6: return whose(picture);
            case 7: return picture.from;
            default: return -2;
        }
    }

    private boolean monster(Picture picture) {
        for (int p : ALL) {
            Integer line = picture.lines.get(p);
            if (line != null && Math.abs(line - picture.mean.get(p)) > settings[0]) {
                return true;
            }
        }
        return false;
    }

    private int unlike(List<Integer> a, List<Integer> b) {
        int sum = 0;
        for (int p : ALL) {
            int have = (a.get(p) == null ? 0 : 1) + (b.get(p) == null ? 0 : 1);
            sum += have == 2 ? Math.abs(a.get(p) - b.get(p)) : have * settings[2];
        }
        return sum;
    }

    private int from(int d) {
        int least = Integer.MAX_VALUE;
        int from = -1;
        for (int i = d - 1; i >= 0; i--) {
            if (pictures.get(i).head == pictures.get(d).head && unlike(lines(i), lines(d)) <= least) {
                least = unlike(lines(i), lines(d));
                from = i;
            }
        }
        return from;
    }

    private int whose(Picture picture) {
        int least = Integer.MAX_VALUE;
        int whose = -1;
        for (int ha = 3; ha >= 0; ha--) {
            int off = unlike(lines(picture.mean, heads.get(picture.head), ha), picture.lines);
            if (off <= least) {
                least = off;
                whose = ha;
            }
        }
        return whose;
    }

    // ---- knowers

    private int knower(int set, int known) {
        if (!set(set) || !those(known)) {
            return -2;
        }
        if (persons.size() == 4) {
            return -4;
        }
        Person person = new Person();
        person.mean = mean(set);
        person.knows = known;
        persons.add(person);
        return persons.size() - 1;
    }

    private int look(int k, int d, int m) {
        if (!person(k) || !picture(d) || !in(m, 0, 60)) {
            return -2;
        }
        List<Integer> mean = persons.get(k).mean;
        for (int p : ALL) {
            if (lines(d).get(p) != null) {
                mean.set(p, mean.get(p) + (lines(d).get(p) - mean.get(p)) * m / (m + settings[1]));
            }
        }
        return 1;
    }

    /** SCORE: above and below, in lowest terms. */
    private BigInteger[] score(Person person, Picture picture, int h) {
        BigInteger along = BigInteger.ZERO;
        BigInteger square = BigInteger.ZERO;
        for (int p : ALL) {
            if (picture.lines.get(p) != null) {
                BigInteger off = BigInteger.valueOf(heads.get(h).get(p) - person.mean.get(p));
                along = along.add(off.multiply(BigInteger.valueOf(picture.lines.get(p) - person.mean.get(p))));
                square = square.add(off.multiply(off));
            }
        }
        along = along.max(BigInteger.ZERO);
        return square.signum() == 0 ? lowest(BigInteger.ZERO, BigInteger.ONE) : lowest(along.multiply(along), square);
    }

    private static BigInteger[] lowest(BigInteger above, BigInteger below) {
        BigInteger common = above.gcd(below);
        return new BigInteger[] {above.divide(common), below.divide(common)};
    }

    private long score(int k, int d, int h, int what) {
        if (!person(k) || !picture(d) || !head(h) || !in(what, 0, 1)) {
            return Due.LONG_BAD;
        }
        if (!isIn(persons.get(k).knows, h)) {
            return Due.LONG_NOT;
        }
        return score(persons.get(k), pictures.get(d), h)[what].longValueExact();
    }

    private int name(Person person, Picture picture) {
        if (monster(picture)) {
            return -1;
        }
        int name = -1;
        BigInteger[] most = {BigInteger.ZERO, BigInteger.ONE};
        for (int h = 0; h < heads.size(); h++) {
            BigInteger[] own = score(person, picture, h);
            if (isIn(person.knows, h) && own[0].multiply(most[1]).compareTo(most[0].multiply(own[1])) > 0) {
                most = own;
                name = h;
            }
        }
        return name;
    }

    private BigInteger cutScore(Person person, Picture picture, int h) {
        BigInteger[] score = score(person, picture, h);
        return score[0].divide(score[1]);
    }

    private int margin(Person person, Picture picture, int name) {
        BigInteger others = BigInteger.ZERO;
        for (int h = 0; h < heads.size(); h++) {
            if (h != name && isIn(person.knows, h)) {
                others = others.max(cutScore(person, picture, h));
            }
        }
        return cutScore(person, picture, name).subtract(others).intValueExact();
    }

    private int named(int k, int d, int what) {
        if (!person(k) || !picture(d) || !in(what, 0, 1)) {
            return -2;
        }
        int name = name(persons.get(k), pictures.get(d));
        return what == 0 ? name : name < 0 ? -3 : margin(persons.get(k), pictures.get(d), name);
    }

    /** A DRAWING of these PARTS (bits) alone. */
    private Picture parts(int h, int set, int bits, int tenths) {
        Picture picture = new Picture();
        picture.mean = mean(set);
        for (int p : ALL) {
            picture.lines.add(isIn(bits, p) ? drawn(picture.mean.get(p), heads.get(h).get(p), tenths) : null);
        }
        return picture;
    }

    private int much(int k, int h, int set, int what) {
        if (!person(k) || !head(h) || !set(set) || !in(what, 0, 2)) {
            return -2;
        }
        if (what < 2 && !isIn(persons.get(k).knows, h)) {
            return -3;
        }
        int answer = -1;
        int most = -1;
        for (int tenths = 60; tenths >= 0; tenths--) {
            Picture picture = parts(h, set, 255, tenths);
            boolean well = what == 2 ? monster(picture) : name(persons.get(k), picture) == h;
            int rank = well && what == 1 ? margin(persons.get(k), picture, h) : 0;
            if (well && rank >= most) {
                most = rank;
                answer = tenths;
            }
        }
        return answer;
    }

    private int few(int k, int h, int set, int tenths) {
        int refusal = refusal(k, h, set, tenths);
        if (refusal < 0) {
            return refusal;
        }
        int few = -1;
        for (int bits = 255; bits > 0; bits--) {
            boolean fewer = few < 0 || Integer.bitCount(bits) <= Integer.bitCount(few);
            if (fewer && name(persons.get(k), parts(h, set, bits, tenths)) == h) {
                few = bits;
            }
        }
        return few;
    }

    private int stands(int k, int h, int set, int tenths) {
        int refusal = refusal(k, h, set, tenths);
        if (refusal < 0) {
            return refusal;
        }
        int stands = 0;
        for (int p : ALL) {
            stands += name(persons.get(k), parts(h, set, 1 << p, tenths)) == h ? 1 << p : 0;
        }
        return stands;
    }

    private int refusal(int k, int h, int set, int tenths) {
        if (!person(k) || !head(h) || !set(set) || !in(tenths, 0, 60)) {
            return -2;
        }
        return isIn(persons.get(k).knows, h) ? 0 : -3;
    }

    // ---- years, hands, back

    private long grows(int h, int p, int what) {
        if (!head(h) || !part(p) || !in(what, 0, 1)) {
            return Due.LONG_BAD;
        }
        long above = 0;
        long below = 0;
        // twice summed over all pairs, the differences give the same as the sums of the document
        for (Picture a : pictures) {
            for (Picture b : pictures) {
                boolean both = a.head == h && b.head == h && a.lines.get(p) != null && b.lines.get(p) != null;
                if (both) {
                    above += (long) (a.year - b.year) * (a.lines.get(p) - b.lines.get(p));
                    below += (long) (a.year - b.year) * (a.year - b.year);
                }
            }
        }
        if (below == 0) {
            return Due.LONG_NOT;
        }
        return lowest(BigInteger.valueOf(above), BigInteger.valueOf(below))[what].longValueExact();
    }

    private Integer back(int he, int ha, int p) {
        Integer tenths = tenths(ha, p);
        int sum = 0;
        int many = 0;
        for (Picture picture : pictures) {
            Integer line = picture.lines.get(p);
            if (picture.head == he && picture.from < 0 && line != null && tenths != null && tenths != 0) {
                sum += picture.mean.get(p) + (line - picture.mean.get(p)) * 10 / tenths;
                many++;
            }
        }
        return many == 0 ? null : Integer.valueOf(sum / many);
    }

    private int near(int he, int ha) {
        int sum = 0;
        for (int p : ALL) {
            Integer back = back(he, ha, p);
            sum += back == null ? 0 : Math.abs(back - heads.get(he).get(p));
        }
        return sum;
    }

    private int witness(int h, int set, int t) {
        if (!head(h) || !set(set) || !in(t, 0, 99)) {
            return -2;
        }
        // which PART comes first does not change how many steps each needs
        int steps = 0;
        for (int p : ALL) {
            int off = Math.abs(heads.get(h).get(p) - mean(set).get(p));
            while (off > t) {
                off /= 2;
                steps++;
            }
        }
        return steps;
    }

    private int plainest(int set) {
        if (!set(set)) {
            return -2;
        }
        int plainest = -1;
        int least = Integer.MAX_VALUE;
        for (int h = heads.size() - 1; h >= 0; h--) {
            int off = 0;
            for (int p : ALL) {
                off += Math.abs(heads.get(h).get(p) - mean(set).get(p));
            }
            if (isIn(set, h) && off <= least) {
                least = off;
                plainest = h;
            }
        }
        return plainest;
    }

    // ---- sheets

    private int find(int number) {
        finding = number;
        return -10 - number;
    }

    private static int form(Object row) {
        return row instanceof byte[] ? 0 : row instanceof short[] ? 1 : 2;
    }

    private static int size(Object row) {
        return java.lang.reflect.Array.getLength(row);
    }

    private static int item(Object row, int i) {
        return ((Number) java.lang.reflect.Array.get(row, i)).intValue();
    }

    private static void put(Object row, int i, int v) {
        switch (form(row)) {
            case 0: ((byte[]) row)[i] = (byte) v; break;
            case 1: ((short[]) row)[i] = (short) v; break;
            default: ((int[]) row)[i] = v;
        }
    }

    private int sheet(int s, int form, int n) {
        if (!in(s, 0, 3) || !in(form, 0, 2) || n > 60) {
            return -2;
        }
        if (n < 0) {
            return find(5);
        }
        sheets[s] = form == 0 ? new byte[n] : form == 1 ? new short[n] : new int[n];
        return n;
    }

    private int lose(int s) {
        if (!in(s, 0, 3)) {
            return -2;
        }
        if (sheets[s] == null) {
            return find(1);
        }
        int had = size(sheets[s]);
        sheets[s] = null;
        return had;
    }

    private int check(int s, int form, int i) {
        if (!in(s, 0, 3) || !in(form, 0, 2)) {
            return -2;
        }
        if (sheets[s] == null) {
            return find(1);
        }
        return form(sheets[s]) != form ? find(3) : in(i, 0, size(sheets[s]) - 1) ? 1 : find(2);
    }

    private int lay(int s, int form, int i, int v) {
        int answer = check(s, form, i);
        if (answer == 1) {
            put(sheets[s], i, v);
        }
        return answer;
    }

    private int get(int s, int form, int i) {
        return check(s, form, i) == 1 ? item(sheets[s], i) : Integer.MIN_VALUE;
    }

    private int copy(int s, int i, int t, int j, int n) {
        if (!in(s, 0, 3) || !in(t, 0, 3)) {
            return -2;
        }
        if (sheets[s] == null || sheets[t] == null) {
            return find(1);
        }
        if (form(sheets[s]) != form(sheets[t])) {
            return find(4);
        }
        try {
            System.arraycopy(sheets[s], i, sheets[t], j, n);
        } catch (IndexOutOfBoundsException outside) {
            return find(2);
        }
        return 1;
    }

    private int write(int d, int s) {
        if (!picture(d) || !in(s, 0, 3)) {
            return -2;
        }
        if (sheets[s] == null) {
            return find(1);
        }
        int many = 0;
        while (many < 8 && many < size(sheets[s])) {
            put(sheets[s], many, any(lines(d).get(many)));
            many++;
        }
        return many;
    }

    private int count(int what) {
        if (in(what, 3, 6)) {
            return hands[what - 3].length();
        }
        int monsters = 0;
        for (Picture picture : pictures) {
            monsters += monster(picture) ? 1 : 0;
        }
        switch (what) {
            case 0: return heads.size();
            case 1: return pictures.size();
            case 2: return persons.size();
            case 7: return monsters;
            case 8: return finding;
            default: return -2;
        }
    }

    private long digest() {
        List<Integer> told = new ArrayList<>();
        for (int what : ALL) {
            told.add(count(what));
        }
        for (int ha = 0; ha < 4; ha++) {
            told.add(fault(hands[ha]));
            for (int p : ALL) {
                told.add(any(tenths(ha, p)));
            }
        }
        for (int h = 0; h < heads.size(); h++) {
            told.add(near(h, 0));
            told.add(witness(h, 1, 9));
        }
        for (int d = 0; d < pictures.size(); d++) {
            for (int what : ALL) {
                told.add(about(d, what));
            }
            for (int p : ALL) {
                told.add(any(lines(d).get(p)));
            }
        }
        for (int k = 0; k < persons.size(); k++) {
            told.addAll(persons.get(k).mean);
            for (int d = 0; d < pictures.size(); d++) {
                told.add(named(k, d, 0));
                told.add(named(k, d, 1));
            }
        }
        long h = 17;
        for (int one : told) {
            h = 31 * h + one;
        }
        return h;
    }
}
