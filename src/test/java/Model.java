import java.math.BigInteger;
import java.util.ArrayList;
import java.util.Comparator;
import java.util.List;
import java.util.function.Consumer;
import java.util.function.IntPredicate;
import java.util.function.IntUnaryOperator;
import java.util.regex.Matcher;
import java.util.regex.Pattern;
import java.util.stream.IntStream;

/** The document once more, slow and by definitions, to compare the class with. */
final class Model {
    private static final int AHEAD = 99;

    private static final class Cat {
        int kind;
        int figure;
        int at;
        int hair;
        int name = 9;
    }

    private static final class Man {
        int side;
        boolean passed;
    }

    private static final class State {
        List<Cat> cats = new ArrayList<>();
        List<Man> men = new ArrayList<>();
        int[] fish = new int[16];
        int[] mice = new int[16];
        int hour = 8;
        int day;

        State copy() {
            State s = new State();
            for (Cat c : cats) {
                s.addCat(c.kind, c.figure, c.at);
                s.cats.get(s.cats.size() - 1).hair = c.hair;
                s.cats.get(s.cats.size() - 1).name = c.name;
            }
            for (Man m : men) {
                s.addMan(m.side);
                s.men.get(s.men.size() - 1).passed = m.passed;
            }
            s.fish = fish.clone();
            s.mice = mice.clone();
            s.hour = hour;
            s.day = day;
            return s;
        }

        void addCat(int kind, int figure, int at) {
            Cat c = new Cat();
            c.kind = kind;
            c.figure = figure;
            c.at = at;
            cats.add(c);
        }

        void addMan(int side) {
            Man m = new Man();
            m.side = side;
            men.add(m);
        }

        int passed() {
            return bits(men.size(), i -> men.get(i).passed);
        }
    }

    private static final class Held {
        boolean isRow;
        int kind;
        int figure;
        int sort;
        int[] row;
    }

    private State now = new State();
    private State image;
    private final Held[] shelves = new Held[8];

    // ---- one hour

    private static int bits(int n, IntPredicate holds) {
        return IntStream.range(0, n).filter(holds).map(i -> 1 << i).sum();
    }

    private static int side(int place) {
        return place / 8;
    }

    private static int mostOf(int[] stock, int from) {
        if (IntStream.of(stock).sum() == 0) {
            return from;
        }
        Comparator<Integer> byStock = Comparator.comparing(p -> -stock[p]);
        return IntStream.range(0, 16).boxed()
            .min(byStock.thenComparing(p -> Math.abs(p - from)).thenComparing(p -> p)).get();
    }

    private static int goal(State s, int cat) {
        int at = s.cats.get(cat).at;
        int kind = s.cats.get(cat).kind;
        boolean night = List.of(20, 21, 22, 23, 0, 1, 2, 3, 4).contains(s.hour);
        if (kind == 0 || kind == 7 || kind == 5 && night) {
            return mostOf(s.fish, at);
        }
        if (kind == 1) {
            return mostOf(s.mice, at);
        }
        if (kind == 2 || kind == 6) {
            Comparator<Integer> byWay = Comparator.comparing(o -> Math.abs(s.cats.get(o).at - at));
            return IntStream.range(0, s.cats.size()).filter(o -> o != cat).boxed()
                .min(byWay.thenComparing(o -> o)).map(o -> s.cats.get(o).at).orElse(at);
        }
        return kind == 4 && s.hour % 2 == 0 ? 15 - at : at;
    }

    private static int pace(int kind, int figure, int hour) {
        int cat = 1 + figure / 4;
        return new int[] {cat, cat, cat + 1, cat, 3, cat, 2 * (cat + 1), hour % 3 == 0 ? 1 : 0}[kind];
    }

    private static int grows(int kind) {
        return kind == 3 ? 2 : kind == 5 ? 0 : 1;
    }

    private static boolean readable(Cat c) {
        return c.name != 9 && (c.kind == 5 || c.hair < 48);
    }

    private static State next(State before, boolean dogs) {
        State s = before.copy();
        for (int i = 0; i < s.cats.size(); i++) {
            Cat c = s.cats.get(i);
            int from = c.at;
            if (!dogs) {
                int goal = goal(s, i);
                for (int step = pace(c.kind, c.figure, s.hour); step > 0 && c.at != goal; step--) {
                    c.at += goal > c.at ? 1 : -1;
                }
                if (c.at != from) {
                    s.fish[c.at] = Math.max(0, s.fish[c.at] - 1);
                }
            }
            c.hair = Math.min(99, c.hair + grows(c.kind));
            if (side(from) != side(c.at) && readable(c)) {
                Man m = s.men.get(c.name);
                if (m.side == side(from) && !m.passed) {
                    m.passed = true;
                    m.side = side(c.at);
                }
            }
        }
        s.hour = (s.hour + 1) % 24;
        s.day += s.hour == 0 ? 1 : 0;
        return s;
    }

    /** The states behind 0, 1, .. n hours. */
    private static List<State> line(State from, int n) {
        List<State> line = new ArrayList<>();
        line.add(from);
        for (int i = 0; i < n; i++) {
            line.add(next(line.get(i), false));
        }
        return line;
    }

    private List<State> lineWith(int n, Consumer<State> change) {
        State s = now.copy();
        change.accept(s);
        return line(s, n);
    }

    private static boolean crossed(List<State> line, int cat, int h) {
        return side(line.get(h - 1).cats.get(cat).at) != side(line.get(h).cats.get(cat).at);
    }

    private static int firstOf(int from, int to, IntPredicate holds) {
        return IntStream.rangeClosed(from, to).filter(holds).findFirst().orElse(-4);
    }

    /** The least of those with the least worth; a worth of -4 is none. */
    private static int best(int n, IntUnaryOperator worth) {
        int[] worths = IntStream.range(0, n).map(worth).toArray();
        Comparator<Integer> byWorth = Comparator.comparing(i -> worths[i]);
        return IntStream.range(0, n).filter(i -> worths[i] != -4).boxed()
            .min(byWorth.thenComparing(i -> i)).orElse(-4);
    }

    private boolean noCat(int cat) {
        return cat < 0 || cat >= now.cats.size();
    }

    private boolean noMan(int man) {
        return man < 0 || man >= now.men.size();
    }

    private static boolean out(int v, int least, int most) {
        return v < least || v > most;
    }

    private int rowRefused(int d) {
        return shelves[d] == null ? -11 : !shelves[d].isRow ? -12 : 0;
    }

    // ---- the frontier as told

    int frontier(int d) {
        if (out(d, 0, 7)) {
            return -1;
        }
        if (rowRefused(d) != 0) {
            return rowRefused(d);
        }
        if (shelves[d].sort != 0) {
            return -12;
        }
        StringBuilder signs = new StringBuilder();
        for (int v : shelves[d].row) {
            signs.append((char) (v & 255));
        }
        int bad = badByte(signs.toString());
        return bad >= 0 ? -1000 - bad : carryOut(signs.toString());
    }

    private static final Pattern STATEMENT =
        Pattern.compile("c\\d{4};|m\\d;|[fx]\\d{3};|[wh]\\d\\d;", Pattern.DOTALL);

    /** The longest beginning with which a text could go on ends there; -1 if the text is whole. */
    private static int badByte(String text) {
        Pattern whole = Pattern.compile("(?:" + STATEMENT.pattern() + ")+", Pattern.DOTALL);
        if (whole.matcher(text).matches()) {
            return -1;
        }
        for (int end = text.length(); end > 0; end--) {
            Matcher m = whole.matcher(text.substring(0, end));
            if (m.matches() || m.hitEnd()) {
                return end;
            }
        }
        return 0;
    }

    private int carryOut(String text) {
        State s = now.copy();
        Matcher m = STATEMENT.matcher(text);
        int statements = 0;
        while (m.find()) {
            s = done(s, m.group());
            if (s == null) {
                return -2000 - m.start();
            }
            statements++;
        }
        now = s;
        return statements;
    }

    private static State done(State s, String statement) {
        int[] n = statement.substring(1, statement.length() - 1).chars().map(c -> c - '0').toArray();
        int two = n.length > 1 ? 10 * n[0] + n[1] : n[0];
        switch (statement.charAt(0)) {
            case 'c':
                if (n[0] > 7 || 10 * n[2] + n[3] > 15 || s.cats.size() == 6) {
                    return null;
                }
                s.addCat(n[0], n[1], 10 * n[2] + n[3]);
                return s;
            case 'm':
                if (n[0] > 1 || s.men.size() == 6) {
                    return null;
                }
                s.addMan(n[0]);
                return s;
            case 'w':
                if (n[0] >= s.cats.size() || n[1] != 9 && n[1] >= s.men.size()) {
                    return null;
                }
                s.cats.get(n[0]).name = n[1];
                s.cats.get(n[0]).hair = 0;
                return s;
            case 'h':
                State then = two < 1 || two > 60 ? null : line(s, two).get(two);
                return then == null || then.day > 999 ? null : then;
            default:
                if (two > 15) {
                    return null;
                }
                (statement.charAt(0) == 'f' ? s.fish : s.mice)[two] = n[2];
                return s;
        }
    }

    int cat(int cat, int what) {
        if (noCat(cat) || out(what, 0, 7)) {
            return -1;
        }
        Cat c = now.cats.get(cat);
        return new int[] {c.kind, c.figure, c.at, c.hair, c.name, goal(now, cat),
            pace(c.kind, c.figure, now.hour), readable(c) ? 1 : 0}[what];
    }

    int man(int man, int what) {
        if (noMan(man) || out(what, 0, 1)) {
            return -1;
        }
        return what == 0 ? now.men.get(man).side : now.men.get(man).passed ? 1 : 0;
    }

    int place(int place, int what) {
        if (out(place, 0, 15) || out(what, 0, 2)) {
            return -1;
        }
        return what == 0 ? now.fish[place] : what == 1 ? now.mice[place]
            : bits(now.cats.size(), i -> now.cats.get(i).at == place);
    }

    int comes(int d, int place) {
        if (out(d, 0, 7) || out(place, 0, 15)) {
            return -1;
        }
        if (shelves[d] == null) {
            return -11;
        }
        if (shelves[d].isRow) {
            return -12;
        }
        if (now.cats.size() == 6) {
            return -2;
        }
        now.addCat(shelves[d].kind, shelves[d].figure, place);
        return now.cats.size() - 1;
    }

    int waits(int side) {
        if (out(side, 0, 1)) {
            return -1;
        }
        if (now.men.size() == 6) {
            return -2;
        }
        now.addMan(side);
        return now.men.size() - 1;
    }

    int writes(int cat, int man) {
        if (noCat(cat) || man != 9 && noMan(man)) {
            return -1;
        }
        int had = now.cats.get(cat).name;
        now.cats.get(cat).name = man;
        now.cats.get(cat).hair = 0;
        return had;
    }

    int lays(int place, int what, int v) {
        if (out(place, 0, 15) || out(what, 0, 1) || out(v, 0, 9)) {
            return -1;
        }
        int[] stock = what == 0 ? now.fish : now.mice;
        int had = stock[place];
        stock[place] = v;
        return had;
    }

    int carries(int cat, int place) {
        if (noCat(cat) || out(place, 0, 15)) {
            return -1;
        }
        int was = now.cats.get(cat).at;
        now.cats.get(cat).at = place;
        return was;
    }

    int hours(int n) {
        if (out(n, 1, 60)) {
            return -1;
        }
        State then = line(now, n).get(n);
        if (then.day > 999) {
            return -3;
        }
        now = then;
        return Integer.bitCount(now.passed());
    }

    // ---- hours on

    int catThen(int cat, int n, int what) {
        if (noCat(cat) || out(n, 0, AHEAD) || out(what, 0, 1)) {
            return -1;
        }
        Cat c = line(now, n).get(n).cats.get(cat);
        return what == 0 ? c.at : c.hair;
    }

    int then(int n, int what) {
        if (out(n, 0, AHEAD) || out(what, 0, 1)) {
            return -1;
        }
        State s = line(now, n).get(n);
        return what == 0 ? s.passed() : IntStream.of(s.fish).sum();
    }

    int crosses(int cat) {
        if (noCat(cat)) {
            return -1;
        }
        List<State> line = line(now, AHEAD);
        return firstOf(1, AHEAD, h -> crossed(line, cat, h));
    }

    int crossings(int cat, int n) {
        if (noCat(cat) || out(n, 0, AHEAD)) {
            return -1;
        }
        List<State> line = line(now, n);
        return (int) IntStream.rangeClosed(1, n).filter(h -> crossed(line, cat, h)).count();
    }

    int passes(int man) {
        return noMan(man) ? -1 : passesIn(line(now, AHEAD), man);
    }

    private static int passesIn(List<State> line, int man) {
        return firstOf(0, AHEAD, h -> line.get(h).men.get(man).passed);
    }

    int first() {
        List<State> line = line(now, AHEAD);
        return best(now.men.size(), m -> now.men.get(m).passed ? -4 : passesIn(line, m));
    }

    private int passesByWriting(int man, int cat) {
        return passesIn(lineWith(AHEAD, s -> {
            s.cats.get(cat).name = man;
            s.cats.get(cat).hair = 0;
        }), man);
    }

    int write(int man, int what) {
        if (noMan(man) || out(what, 0, 1)) {
            return -1;
        }
        if (now.men.get(man).passed) {
            return -3;
        }
        int cat = best(now.cats.size(), c -> passesByWriting(man, c));
        return what == 0 || cat == -4 ? cat : passesByWriting(man, cat);
    }

    int good(int cat) {
        if (noCat(cat)) {
            return -1;
        }
        if (!readable(now.cats.get(cat))) {
            return 0;
        }
        List<State> line = line(now, AHEAD);
        int first = firstOf(1, AHEAD, h -> !readable(line.get(h).cats.get(cat)));
        return first == -4 ? 99 : first;
    }

    // ---- fish, crossings

    private List<State> lineWithFish(int n, int place, int v) {
        return lineWith(n, s -> s.fish[place] = Math.min(9, s.fish[place] + v));
    }

    int putFish(int cat, int place, int v, int what) {
        if (noCat(cat) || out(place, 0, 15) || out(v, 1, 9) || out(what, 0, 1)) {
            return -1;
        }
        int[] when = new int[16];
        for (int p = 0; p < 16; p++) {
            List<State> line = lineWithFish(AHEAD, p, v);
            when[p] = firstOf(0, AHEAD, h -> line.get(h).cats.get(cat).at == place);
        }
        int best = best(16, p -> when[p]);
        return what == 0 || best == -4 ? best : when[best];
    }

    int together(int n, int what) {
        if (out(n, 0, AHEAD) || out(what, 0, 2)) {
            return -1;
        }
        List<State> line = line(now, n);
        int[] which = new int[n + 1];
        for (int h = 1; h <= n; h++) {
            int hour = h;
            which[h] = bits(now.cats.size(), c -> crossed(line, c, hour));
        }
        int best = best(n + 1, h -> which[h] == 0 ? -4 : 10 - Integer.bitCount(which[h]));
        if (what == 2) {
            return best;
        }
        int bits = best == -4 ? 0 : which[best];
        return what == 0 ? bits : Integer.bitCount(bits);
    }

    int all() {
        return (int) IntStream.range(0, now.men.size()).filter(m -> !now.men.get(m).passed)
            .filter(m -> IntStream.range(0, now.cats.size()).anyMatch(c -> passesByWriting(m, c) != -4)).count();
    }

    int deserted(int n) {
        if (out(n, 0, AHEAD)) {
            return -1;
        }
        List<State> line = line(now, n);
        return bits(16, p -> line.stream().noneMatch(s -> s.cats.stream().anyMatch(c -> c.at == p)));
    }

    int meet(int a, int b) {
        if (noCat(a) || noCat(b) || a == b) {
            return -1;
        }
        List<State> line = line(now, AHEAD);
        return firstOf(0, AHEAD, h -> line.get(h).cats.get(a).at == line.get(h).cats.get(b).at);
    }

    int shave(int n) {
        if (out(n, 0, AHEAD)) {
            return -1;
        }
        int without = Integer.bitCount(line(now, n).get(n).passed());
        return best(now.cats.size(), c -> {
            int with = Integer.bitCount(lineWith(n, s -> s.cats.get(c).hair = 0).get(n).passed());
            return with > without ? 10 - with : -4;
        });
    }

    int bribe(int cat, int place, int n) {
        if (noCat(cat) || out(place, 0, 15) || out(n, 0, AHEAD)) {
            return -1;
        }
        int without = line(now, n).get(n).cats.get(cat).at;
        return firstOf(1, 9, v -> lineWithFish(n, place, v).get(n).cats.get(cat).at != without);
    }

    int busiest(int n, int what) {
        if (out(n, 0, AHEAD) || out(what, 0, 1)) {
            return -1;
        }
        int[] often = new int[16];
        line(now, n).stream().skip(1).forEach(s -> s.cats.forEach(c -> often[c.at]++));
        int best = best(16, p -> 1000 - often[p]);
        return what == 0 ? best : often[best];
    }

    int nearest(int what) {
        if (out(what, 0, 1)) {
            return -1;
        }
        IntUnaryOperator far = c -> Math.min(Math.abs(now.cats.get(c).at - 7), Math.abs(now.cats.get(c).at - 8));
        int best = best(now.cats.size(), far);
        return what == 0 || best == -4 ? best : far.applyAsInt(best);
    }

    // ---- what it is

    private static boolean skipped(Held h, int i) {
        return h.row[i] == new int[] {-128, -32768, Integer.MIN_VALUE}[h.sort];
    }

    int whatIs(int d, int cat, int what) {
        if (out(d, 0, 7) || noCat(cat) || out(what, 0, 2)) {
            return -1;
        }
        if (rowRefused(d) != 0) {
            return rowRefused(d);
        }
        Held told = shelves[d];
        return bits(new int[] {8, 10, 16}[what], v -> {
            List<State> line = lineWith(told.row.length, s -> {
                Cat c = s.cats.get(cat);
                c.kind = what == 0 ? v : c.kind;
                c.figure = what == 1 ? v : c.figure;
                c.at = what == 2 ? v : c.at;
            });
            return IntStream.range(0, told.row.length)
                .allMatch(i -> skipped(told, i) || line.get(i).cats.get(cat).at == told.row[i]);
        });
    }

    int two(int n) {
        if (out(n, 1, 24)) {
            return -1;
        }
        int[][] own = new int[2][4];
        for (int pair = 0; pair < 4; pair++) {
            int a = pair / 2;
            int b = pair % 2;
            State then = lineWith(n, s -> {
                s.fish[7] = Math.min(9, s.fish[7] + 3 * a);
                s.fish[8] = Math.min(9, s.fish[8] + 3 * b);
            }).get(n);
            own[0][pair] = (int) then.cats.stream().filter(c -> c.at < 8).count();
            own[1][pair] = (int) then.cats.stream().filter(c -> c.at > 7).count();
        }
        int pair = firstOf(0, 3, p -> own[0][p ^ 2] <= own[0][p] && own[1][p ^ 1] <= own[1][p]);
        return pair == -4 ? -4 : pair / 2 * 10 + pair % 2;
    }

    long dogs(int cat, int side, int n, int t, int part) {
        if (noCat(cat) || out(side, 0, 1) || out(n, 0, 7) || out(t, 2, 20) || out(part, 0, 1)) {
            return 1000000001L;
        }
        return fraction(ways(now, cat, side, n, t), BigInteger.valueOf(t).pow(n), part);
    }

    private static BigInteger ways(State s, int cat, int side, int n, int t) {
        if (n == 0) {
            return BigInteger.valueOf(side(s.cats.get(cat).at) == side ? 1 : 0);
        }
        return ways(next(s, true), cat, side, n - 1, t)
            .add(BigInteger.valueOf(t - 1).multiply(ways(next(s, false), cat, side, n - 1, t)));
    }

    private static long fraction(BigInteger above, BigInteger below, int part) {
        return (part == 0 ? above : below).divide(above.gcd(below)).longValueExact();
    }

    long mean(int part) {
        if (out(part, 0, 1)) {
            return 1000000001L;
        }
        return fraction(BigInteger.valueOf(now.cats.stream().mapToInt(c -> c.at).sum()),
            BigInteger.valueOf(Math.max(1, now.cats.size())), part);
    }

    // ---- told logs, nights by seeds

    int forged(int d, int cat) {
        if (out(d, 0, 7) || noCat(cat)) {
            return -1;
        }
        if (rowRefused(d) != 0) {
            return rowRefused(d);
        }
        int[] log = shelves[d].row;
        Cat c = now.cats.get(cat);
        return firstOf(0, log.length - 1, i -> out(log[i], 0, 15)
            || i > 0 && Math.abs((long) log[i] - log[i - 1]) > pace(c.kind, c.figure, (now.hour + i - 1) % 24));
    }

    int judge(int d) {
        if (out(d, 0, 7)) {
            return -1;
        }
        if (rowRefused(d) != 0) {
            return rowRefused(d);
        }
        Held told = shelves[d];
        List<State> line = line(now, told.row.length);
        return firstOf(0, told.row.length - 1,
            i -> !skipped(told, i) && told.row[i] != Integer.bitCount(line.get(i).passed()));
    }

    int nights(int n, int z, int what) {
        if (out(n, 1, 20) || out(what, 0, 1)) {
            return -1;
        }
        long seed = z & 0xffffffffL;
        int more = 0;
        int there = 0;
        for (int night = 0; night < n; night++) {
            State s = now.copy();
            for (Cat c : s.cats) {
                seed = (seed * 1103515245L + 12345L) & 0xffffffffL;
                c.at = (int) ((seed & 0x7fffffffL) / 65536 % 16);
            }
            State then = line(s, 10).get(10);
            more += Integer.bitCount(then.passed() & ~now.passed());
            there += (int) then.cats.stream().filter(c -> c.at > 7).count();
        }
        return what == 0 ? more : there;
    }

    // ---- the image, what is told

    int image() {
        image = now.copy();
        return now.day;
    }

    int restore() {
        if (image == null) {
            return -3;
        }
        now = image.copy();
        return now.day;
    }

    int count(int what) {
        if (out(what, 0, 6)) {
            return -1;
        }
        return new int[] {now.cats.size(), now.men.size(), now.hour, now.day, now.passed(),
            IntStream.of(now.fish).sum(), bits(now.cats.size(), i -> readable(now.cats.get(i)))}[what];
    }

    // ---- shelves

    int keep(int d, int what, int k, int figure) {
        if (out(d, 0, 7) || out(what, 0, 1) || what == 1 && (out(k, 0, 7) || out(figure, 0, 9))) {
            return -1;
        }
        shelves[d] = null;
        if (what == 1) {
            shelves[d] = new Held();
            shelves[d].kind = k;
            shelves[d].figure = figure;
        }
        return 0;
    }

    int row(int d, int sort, int n) {
        if (out(d, 0, 7) || out(sort, 0, 2) || n > 100) {
            return -1;
        }
        if (n < 0) {
            return -14;
        }
        shelves[d] = new Held();
        shelves[d].isRow = true;
        shelves[d].sort = sort;
        shelves[d].row = new int[n];
        return 0;
    }

    int put(int d, int i, int v) {
        if (out(d, 0, 7)) {
            return -1;
        }
        if (rowRefused(d) != 0) {
            return rowRefused(d);
        }
        if (out(i, 0, shelves[d].row.length - 1)) {
            return -13;
        }
        shelves[d].row[i] = new int[] {(byte) v, (short) v, v}[shelves[d].sort];
        return 0;
    }

    long element(int d, int i) {
        if (out(d, 0, 7)) {
            throw new IllegalArgumentException();
        }
        if (rowRefused(d) != 0 || out(i, 0, shelves[d].row.length - 1)) {
            throw new IllegalStateException();
        }
        return shelves[d].row[i];
    }

    int copy(int d, int i, int e, int j, int n) {
        if (out(d, 0, 7) || out(e, 0, 7)) {
            return -1;
        }
        Held from = shelves[d];
        Held to = shelves[e];
        if (from == null || to == null) {
            return -11;
        }
        if (!from.isRow || !to.isRow || from.sort != to.sort) {
            return -12;
        }
        if (i < 0 || j < 0 || n < 0 || (long) i + n > from.row.length || (long) j + n > to.row.length) {
            return -13;
        }
        int[] taken = from.row.clone();
        for (int k = 0; k < n; k++) {
            to.row[j + k] = taken[i + k];
        }
        return n;
    }

    private static int costOf(int kind, int f) {
        return new int[] {3, 3 + f, 2, 3 + 5, (3 + f) / 2, 2 * (3 + 5), 2 + f, 0}[kind];
    }

    private int kindRefused(int d) {
        return out(d, 0, 7) ? -1 : shelves[d] == null ? -11 : shelves[d].isRow ? -12 : 0;
    }

    int cost(int d) {
        return kindRefused(d) != 0 ? kindRefused(d) : costOf(shelves[d].kind, shelves[d].figure);
    }

    int toss(int d) {
        if (kindRefused(d) != 0) {
            return kindRefused(d);
        }
        int f = shelves[d].figure;
        int kind = shelves[d].kind;
        if (f == 0 || kind == 3 || kind == 5 || kind == 7) {
            return -15;
        }
        return kind == 6 ? 200 + costOf(kind, f) : kind == 2 ? 100 + f : f;
    }
}
