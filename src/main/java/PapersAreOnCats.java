import java.util.Arrays;

/** Papers are written on cats; what each call answers stands in DOC.md, promise by promise. */
public final class PapersAreOnCats {
    private static final int NO_SUCH_ONE = -1;
    private static final int NO_ROOM = -2;
    private static final int NOT_AS_IT_MUST_BE = -3;
    private static final int NONE = -4;
    private static final int NOTHING_HELD = -11;
    private static final int OTHER_KIND = -12;
    private static final int NO_SUCH_PLACE = -13;
    private static final int SIZE_BELOW_0 = -14;
    private static final int NO_FAILURE = -15;
    private static final int NO_REFUSAL = 0;
    private static final long REFUSED_LONG = 1000000000L - NO_SUCH_ONE;
    private static final int FAULT_OF_FORM = -1000;
    private static final int FAULT_OF_SENSE = -2000;

    private static final int PLACES = 16;
    private static final int LAST_OF_SIDE_0 = 7;
    private static final int FIRST_OF_SIDE_1 = 8;
    private static final int KINDS = 8;
    private static final int FIGURES = 10;
    private static final int MOST_CATS = 6;
    private static final int MOST_MEN = 6;
    private static final int MOST_AT_A_PLACE = 9;
    private static final int MOST_HAIR = 99;
    private static final int HAIR_HIDES = 48;
    private static final int NO_NAME = 9;
    private static final int FIRST_HOUR = 8;
    private static final int HOURS_IN_A_DAY = 24;
    private static final int LAST_DAY = 999;
    private static final int MOST_HOURS_AT_ONCE = 60;
    private static final int FARTHEST = 99;
    private static final int CUSTOMS_FISH = 3;
    private static final int LONGEST_CUSTOMS = 24;
    private static final int MOST_DOG_HOURS = 7;
    private static final int LEAST_ODDS = 2;
    private static final int MOST_ODDS = 20;
    private static final int MOST_NIGHTS = 20;
    private static final int HOURS_IN_A_NIGHT = 10;
    private static final int SHELVES = 8;
    private static final int LONGEST_ROW = 100;
    private static final int BYTES = 0;
    private static final int SHORTS = 1;
    private static final int INTS = 2;
    private static final int LEAST_BYTE = -128;
    private static final int LEAST_SHORT = -32768;
    private static final int LEAST_INT = 0x80000000;
    private static final int ALL_BUT_SIGN = 0x7fffffff;

    private final Cat[] kinds;
    private final Frontier now;
    /** Used again by every call that looks ahead, so that no call makes objects. */
    private final Frontier mind;
    private final Frontier image;
    private boolean imageTaken;
    private final Shelf[] shelves = new Shelf[SHELVES];
    private final int[] visits = new int[PLACES];

    public PapersAreOnCats() {
        kinds = new Cat[] {new Cat(), new Mouser(), new Tom(), new White(),
            new Kitten(), new Shell(), new Spy(), new Old()};
        now = new Frontier(kinds);
        mind = new Frontier(kinds);
        image = new Frontier(kinds);
        for (int d = 0; d < SHELVES; d++) {
            shelves[d] = new Shelf();
        }
    }

    // ---- the frontier as told

    public int frontier(int d) {
        int refusal = refusalOfRow(d);
        if (refusal != NO_REFUSAL) {
            return refusal;
        }
        Shelf text = shelves[d];
        if (text.sort != BYTES) {
            return OTHER_KIND;
        }
        int badByte = Text.firstBadByte(text);
        if (badByte != Text.NO_BAD_BYTE) {
            return FAULT_OF_FORM - badByte;
        }
        return carryOut(text);
    }

    /** Statements are tried in mind, because with a fault nothing of the text may come. */
    private int carryOut(Shelf text) {
        mind.becomes(now);
        int statements = 0;
        int letter = 0;
        // a statement has three bytes at least, so there are never more of them than bytes
        while (letter < text.size && statements < LONGEST_ROW) {
            if (!Text.isDone(text, letter, mind)) {
                return FAULT_OF_SENSE - letter;
            }
            letter += Text.length(text.get(letter));
            statements++;
        }
        now.becomes(mind);
        return statements;
    }

    public int cat(int cat, int what) {
        if (!now.hasCat(cat)) {
            return NO_SUCH_ONE;
        }
        switch (what) {
            case 0: return now.kind[cat];
            case 1: return now.figure[cat];
            case 2: return now.at[cat];
            case 3: return now.hair[cat];
            case 4: return now.name[cat];
            case 5: return now.goalOf(cat);
            case 6: return now.paceOf(cat, now.hour);
            case 7: return now.canBeRead(cat) ? 1 : 0;
            default: return NO_SUCH_ONE;
        }
    }

    public int man(int man, int what) {
        if (!now.hasMan(man)) {
            return NO_SUCH_ONE;
        }
        switch (what) {
            case 0: return now.side[man];
            case 1: return now.hasPassed(man) ? 1 : 0;
            default: return NO_SUCH_ONE;
        }
    }

    public int place(int place, int what) {
        if (!isPlace(place)) {
            return NO_SUCH_ONE;
        }
        switch (what) {
            case 0: return now.fish[place];
            case 1: return now.mice[place];
            case 2: return now.catsAt(place);
            default: return NO_SUCH_ONE;
        }
    }

    public int comes(int d, int place) {
        if (!isShelf(d) || !isPlace(place)) {
            return NO_SUCH_ONE;
        }
        int refusal = refusalOfKind(d);
        if (refusal != NO_REFUSAL) {
            return refusal;
        }
        return now.addCat(shelves[d].kind, shelves[d].figure, place) ? now.cats - 1 : NO_ROOM;
    }

    public int waits(int side) {
        if (!isSide(side)) {
            return NO_SUCH_ONE;
        }
        return now.addMan(side) ? now.men - 1 : NO_ROOM;
    }

    public int writes(int cat, int man) {
        if (!now.hasCat(cat) || !now.hasName(man)) {
            return NO_SUCH_ONE;
        }
        int before = now.name[cat];
        now.giveName(cat, man);
        return before;
    }

    public int lays(int place, int what, int v) {
        if (!isPlace(place) || !isWithin(what, 0, 1) || !isWithin(v, 0, MOST_AT_A_PLACE)) {
            return NO_SUCH_ONE;
        }
        int[] stock = what == 0 ? now.fish : now.mice;
        int before = stock[place];
        stock[place] = v;
        return before;
    }

    public int carries(int cat, int place) {
        if (!now.hasCat(cat) || !isPlace(place)) {
            return NO_SUCH_ONE;
        }
        int before = now.at[cat];
        now.at[cat] = place;
        return before;
    }

    public int hours(int n) {
        if (!isWithin(n, 1, MOST_HOURS_AT_ONCE)) {
            return NO_SUCH_ONE;
        }
        if (!now.hasDaysFor(n)) {
            return NOT_AS_IT_MUST_BE;
        }
        now.goOn(n);
        return Integer.bitCount(now.passed);
    }

    // ---- hours on

    public int catThen(int cat, int n, int what) {
        if (!now.hasCat(cat) || !isAhead(n) || !isWithin(what, 0, 1)) {
            return NO_SUCH_ONE;
        }
        lookAhead(n);
        return what == 0 ? mind.at[cat] : mind.hair[cat];
    }

    public int then(int n, int what) {
        if (!isAhead(n) || !isWithin(what, 0, 1)) {
            return NO_SUCH_ONE;
        }
        lookAhead(n);
        return what == 0 ? mind.passed : mind.allFish();
    }

    public int crosses(int cat) {
        if (!now.hasCat(cat)) {
            return NO_SUCH_ONE;
        }
        mind.becomes(now);
        for (int h = 1; h <= FARTHEST; h++) {
            mind.anHour();
            if (mind.hasCrossed(cat)) {
                return h;
            }
        }
        return NONE;
    }

    public int crossings(int cat, int n) {
        if (!now.hasCat(cat) || !isAhead(n)) {
            return NO_SUCH_ONE;
        }
        mind.becomes(now);
        int often = 0;
        for (int h = 1; h <= n; h++) {
            mind.anHour();
            if (mind.hasCrossed(cat)) {
                often++;
            }
        }
        return often;
    }

    public int passes(int man) {
        if (!now.hasMan(man)) {
            return NO_SUCH_ONE;
        }
        mind.becomes(now);
        return hoursTillPassed(man);
    }

    /** From what is in mind on. */
    private int hoursTillPassed(int man) {
        for (int h = 0; h <= FARTHEST; h++) {
            if (mind.hasPassed(man)) {
                return h;
            }
            mind.anHour();
        }
        return NONE;
    }

    public int first() {
        mind.becomes(now);
        for (int h = 1; h <= FARTHEST; h++) {
            mind.anHour();
            for (int man = 0; man < now.men; man++) {
                if (mind.hasPassed(man) && !now.hasPassed(man)) {
                    return man;
                }
            }
        }
        return NONE;
    }

    public int write(int man, int what) {
        if (!now.hasMan(man) || !isWithin(what, 0, 1)) {
            return NO_SUCH_ONE;
        }
        if (now.hasPassed(man)) {
            return NOT_AS_IT_MUST_BE;
        }
        int best = NONE;
        int soonest = NONE;
        for (int cat = 0; cat < now.cats; cat++) {
            int when = hoursTillPassedBy(man, cat);
            if (when != NONE && (best == NONE || when < soonest)) {
                best = cat;
                soonest = when;
            }
        }
        return what == 0 ? best : soonest;
    }

    private int hoursTillPassedBy(int man, int cat) {
        mind.becomes(now);
        mind.giveName(cat, man);
        return hoursTillPassed(man);
    }

    public int good(int cat) {
        if (!now.hasCat(cat)) {
            return NO_SUCH_ONE;
        }
        if (!now.canBeRead(cat)) {
            return 0;
        }
        mind.becomes(now);
        for (int h = 1; h < FARTHEST; h++) {
            mind.grow(cat);
            if (!mind.canBeRead(cat)) {
                return h;
            }
        }
        return FARTHEST;
    }

    // ---- fish, crossings

    public int putFish(int cat, int place, int v, int what) {
        if (!now.hasCat(cat) || !isPlace(place) || !isWithin(v, 1, MOST_AT_A_PLACE)
                || !isWithin(what, 0, 1)) {
            return NO_SUCH_ONE;
        }
        int best = NONE;
        int soonest = NONE;
        for (int post = 0; post < PLACES; post++) {
            mind.becomes(now);
            mind.addFish(post, v);
            int when = hoursTillAt(cat, place);
            if (when != NONE && (best == NONE || when < soonest)) {
                best = post;
                soonest = when;
            }
        }
        return what == 0 ? best : soonest;
    }

    /** From what is in mind on. */
    private int hoursTillAt(int cat, int place) {
        for (int h = 0; h <= FARTHEST; h++) {
            if (mind.at[cat] == place) {
                return h;
            }
            mind.anHour();
        }
        return NONE;
    }

    public int together(int n, int what) {
        if (!isAhead(n) || !isWithin(what, 0, 2)) {
            return NO_SUCH_ONE;
        }
        mind.becomes(now);
        int which = 0;
        int when = NONE;
        for (int h = 1; h <= n; h++) {
            mind.anHour();
            if (Integer.bitCount(mind.crossed) > Integer.bitCount(which)) {
                which = mind.crossed;
                when = h;
            }
        }
        switch (what) {
            case 0: return which;
            case 1: return Integer.bitCount(which);
            default: return when;
        }
    }

    public int all() {
        int could = 0;
        for (int man = 0; man < now.men; man++) {
            if (!now.hasPassed(man) && couldPass(man)) {
                could++;
            }
        }
        return could;
    }

    private boolean couldPass(int man) {
        for (int cat = 0; cat < now.cats; cat++) {
            if (hoursTillPassedBy(man, cat) != NONE) {
                return true;
            }
        }
        return false;
    }

    public int deserted(int n) {
        if (!isAhead(n)) {
            return NO_SUCH_ONE;
        }
        mind.becomes(now);
        int visited = mind.placesOfCats();
        for (int h = 1; h <= n; h++) {
            mind.anHour();
            visited |= mind.placesOfCats();
        }
        return ~visited & (1 << PLACES) - 1;
    }

    public int meet(int a, int b) {
        if (!now.hasCat(a) || !now.hasCat(b) || a == b) {
            return NO_SUCH_ONE;
        }
        mind.becomes(now);
        for (int h = 0; h <= FARTHEST; h++) {
            if (mind.at[a] == mind.at[b]) {
                return h;
            }
            mind.anHour();
        }
        return NONE;
    }

    public int shave(int n) {
        if (!isAhead(n)) {
            return NO_SUCH_ONE;
        }
        lookAhead(n);
        int most = Integer.bitCount(mind.passed);
        int best = NONE;
        for (int cat = 0; cat < now.cats; cat++) {
            mind.becomes(now);
            mind.hair[cat] = 0;
            mind.goOn(n);
            int passed = Integer.bitCount(mind.passed);
            if (passed > most) {
                most = passed;
                best = cat;
            }
        }
        return best;
    }

    public int bribe(int cat, int place, int n) {
        if (!now.hasCat(cat) || !isPlace(place) || !isAhead(n)) {
            return NO_SUCH_ONE;
        }
        lookAhead(n);
        int without = mind.at[cat];
        for (int v = 1; v <= MOST_AT_A_PLACE; v++) {
            mind.becomes(now);
            mind.addFish(place, v);
            mind.goOn(n);
            if (mind.at[cat] != without) {
                return v;
            }
        }
        return NONE;
    }

    public int busiest(int n, int what) {
        if (!isAhead(n) || !isWithin(what, 0, 1)) {
            return NO_SUCH_ONE;
        }
        countVisits(n);
        int best = 0;
        for (int place = 1; place < PLACES; place++) {
            if (visits[place] > visits[best]) {
                best = place;
            }
        }
        return what == 0 ? best : visits[best];
    }

    private void countVisits(int n) {
        Arrays.fill(visits, 0);
        mind.becomes(now);
        for (int h = 1; h <= n; h++) {
            mind.anHour();
            for (int cat = 0; cat < mind.cats; cat++) {
                visits[mind.at[cat]]++;
            }
        }
    }

    public int nearest(int what) {
        if (!isWithin(what, 0, 1)) {
            return NO_SUCH_ONE;
        }
        int best = NONE;
        int least = NONE;
        for (int cat = 0; cat < now.cats; cat++) {
            int far = toFrontier(now.at[cat]);
            if (best == NONE || far < least) {
                best = cat;
                least = far;
            }
        }
        return what == 0 ? best : least;
    }

    private static int toFrontier(int place) {
        return sideOf(place) == 0 ? LAST_OF_SIDE_0 - place : place - FIRST_OF_SIDE_1;
    }

    // ---- what it is

    public int whatIs(int d, int cat, int what) {
        if (!isShelf(d) || !now.hasCat(cat) || !isWithin(what, 0, 2)) {
            return NO_SUCH_ONE;
        }
        int refusal = refusalOfRow(d);
        if (refusal != NO_REFUSAL) {
            return refusal;
        }
        int choices = what == 0 ? KINDS : what == 1 ? FIGURES : PLACES;
        int bits = 0;
        for (int choice = 0; choice < choices; choice++) {
            mind.becomes(now);
            suppose(cat, what, choice);
            if (goesAsTold(shelves[d], cat)) {
                bits |= 1 << choice;
            }
        }
        return bits;
    }

    private void suppose(int cat, int what, int choice) {
        if (what == 0) {
            mind.kind[cat] = choice;
        } else if (what == 1) {
            mind.figure[cat] = choice;
        } else {
            mind.at[cat] = choice;
        }
    }

    private boolean goesAsTold(Shelf told, int cat) {
        for (int h = 0; h < told.size; h++) {
            if (!told.isSkipped(h) && told.get(h) != mind.at[cat]) {
                return false;
            }
            mind.anHour();
        }
        return true;
    }

    public int two(int n) {
        if (!isWithin(n, 1, LONGEST_CUSTOMS)) {
            return NO_SUCH_ONE;
        }
        for (int a = 0; a <= 1; a++) {
            for (int b = 0; b <= 1; b++) {
                int onSide1 = onSide1WithFish(a, b, n);
                boolean firstStays = onSide1WithFish(1 - a, b, n) >= onSide1;
                boolean secondStays = onSide1WithFish(a, 1 - b, n) <= onSide1;
                if (firstStays && secondStays) {
                    return 10 * a + b;
                }
            }
        }
        return NONE;
    }

    /** Each cat is on one SIDE, so this one number tells what both customs have. */
    private int onSide1WithFish(int a, int b, int n) {
        mind.becomes(now);
        mind.addFish(LAST_OF_SIDE_0, a * CUSTOMS_FISH);
        mind.addFish(FIRST_OF_SIDE_1, b * CUSTOMS_FISH);
        mind.goOn(n);
        return mind.catsOnSide1();
    }

    public long dogs(int cat, int side, int n, int t, int part) {
        if (!now.hasCat(cat) || !isSide(side) || !isWithin(n, 0, MOST_DOG_HOURS)
                || !isWithin(t, LEAST_ODDS, MOST_ODDS) || !isWithin(part, 0, 1)) {
            return REFUSED_LONG;
        }
        long above = 0;
        for (int dogHours = 0; dogHours < 1 << n; dogHours++) {
            mind.becomes(now);
            goWithDogs(dogHours, n);
            if (sideOf(mind.at[cat]) == side) {
                above += power(t - 1, n - Integer.bitCount(dogHours));
            }
        }
        return inLeastTerms(above, power(t, n), part);
    }

    private void goWithDogs(int dogHours, int n) {
        for (int h = 0; h < n; h++) {
            if ((dogHours >> h & 1) == 1) {
                mind.anHourOfDogs();
            } else {
                mind.anHour();
            }
        }
    }

    private static long power(int base, int times) {
        long product = 1;
        for (int i = 0; i < times; i++) {
            product *= base;
        }
        return product;
    }

    public long mean(int part) {
        if (!isWithin(part, 0, 1)) {
            return REFUSED_LONG;
        }
        if (now.cats == 0) {
            return part;
        }
        int sum = 0;
        for (int cat = 0; cat < now.cats; cat++) {
            sum += now.at[cat];
        }
        return inLeastTerms(sum, now.cats, part);
    }

    private static long inLeastTerms(long above, long below, int part) {
        long told = part == 0 ? above : below;
        long divisor = commonDivisor(above, below);
        return divisor == 0 ? told : told / divisor;
    }

    private static long commonDivisor(long above, long below) {
        long a = above;
        long b = below;
        // Euclid's steps for longs are fewer than 100
        for (int step = 0; step < 100 && b != 0; step++) {
            long rest = a % b;
            a = b;
            b = rest;
        }
        return a;
    }

    // ---- told logs, nights by seeds

    public int forged(int d, int cat) {
        if (!isShelf(d) || !now.hasCat(cat)) {
            return NO_SUCH_ONE;
        }
        int refusal = refusalOfRow(d);
        if (refusal != NO_REFUSAL) {
            return refusal;
        }
        Shelf log = shelves[d];
        for (int i = 0; i < log.size; i++) {
            if (!isPlace(log.get(i)) || i > 0 && !canGo(cat, log.get(i - 1), log.get(i), i - 1)) {
                return i;
            }
        }
        return NONE;
    }

    private boolean canGo(int cat, int from, int to, int hoursOn) {
        return Math.abs(to - from) <= now.paceOf(cat, (now.hour + hoursOn) % HOURS_IN_A_DAY);
    }

    public int judge(int d) {
        int refusal = refusalOfRow(d);
        if (refusal != NO_REFUSAL) {
            return refusal;
        }
        Shelf told = shelves[d];
        mind.becomes(now);
        for (int h = 0; h < told.size; h++) {
            if (!told.isSkipped(h) && told.get(h) != Integer.bitCount(mind.passed)) {
                return h;
            }
            mind.anHour();
        }
        return NONE;
    }

    public int nights(int n, int z, int what) {
        if (!isWithin(n, 1, MOST_NIGHTS) || !isWithin(what, 0, 1)) {
            return NO_SUCH_ONE;
        }
        int seed = z;
        int passedMore = 0;
        int onSide1 = 0;
        for (int night = 0; night < n; night++) {
            mind.becomes(now);
            for (int cat = 0; cat < mind.cats; cat++) {
                seed = nextSeed(seed);
                mind.at[cat] = drawnPlace(seed);
            }
            mind.goOn(HOURS_IN_A_NIGHT);
            passedMore += Integer.bitCount(mind.passed) - Integer.bitCount(now.passed);
            onSide1 += mind.catsOnSide1();
        }
        return what == 0 ? passedMore : onSide1;
    }

    private static int nextSeed(int z) {
        return z * 1103515245 + 12345;
    }

    private static int drawnPlace(int z) {
        return (z & ALL_BUT_SIGN) / 65536 % PLACES;
    }

    // ---- the image, what is told

    public int image() {
        image.becomes(now);
        imageTaken = true;
        return now.day;
    }

    public int restore() {
        if (!imageTaken) {
            return NOT_AS_IT_MUST_BE;
        }
        now.becomes(image);
        return now.day;
    }

    public int count(int what) {
        switch (what) {
            case 0: return now.cats;
            case 1: return now.men;
            case 2: return now.hour;
            case 3: return now.day;
            case 4: return now.passed;
            case 5: return now.allFish();
            case 6: return now.readableCats();
            default: return NO_SUCH_ONE;
        }
    }

    // ---- shelves

    public int keep(int d, int what, int k, int figure) {
        if (!isShelf(d)) {
            return NO_SUCH_ONE;
        }
        if (what == 0) {
            shelves[d].holdNothing();
            return 0;
        }
        if (what != 1 || !isKind(k) || !isWithin(figure, 0, FIGURES - 1)) {
            return NO_SUCH_ONE;
        }
        shelves[d].holdKind(k, figure);
        return 0;
    }

    public int row(int d, int sort, int n) {
        if (!isShelf(d) || !isWithin(sort, BYTES, INTS) || n > LONGEST_ROW) {
            return NO_SUCH_ONE;
        }
        if (n < 0) {
            return SIZE_BELOW_0;
        }
        shelves[d].holdRow(sort, n);
        return 0;
    }

    public int put(int d, int i, int v) {
        int refusal = refusalOfRow(d);
        if (refusal != NO_REFUSAL) {
            return refusal;
        }
        if (!shelves[d].hasElement(i)) {
            return NO_SUCH_PLACE;
        }
        shelves[d].set(i, v);
        return 0;
    }

    public long element(int d, int i) throws IllegalArgumentException, IllegalStateException {
        if (!isShelf(d)) {
            throw new IllegalArgumentException("no such shelf");
        }
        if (refusalOfRow(d) != NO_REFUSAL || !shelves[d].hasElement(i)) {
            throw new IllegalStateException("no row or no such place");
        }
        return shelves[d].get(i);
    }

    public int copy(int d, int i, int e, int j, int n) {
        if (!isShelf(d) || !isShelf(e)) {
            return NO_SUCH_ONE;
        }
        Shelf from = shelves[d];
        Shelf to = shelves[e];
        if (from.holds == Shelf.NOTHING || to.holds == Shelf.NOTHING) {
            return NOTHING_HELD;
        }
        if (from.holds != Shelf.ROW || to.holds != Shelf.ROW || from.sort != to.sort) {
            return OTHER_KIND;
        }
        if (!from.hasStretch(i, n) || !to.hasStretch(j, n)) {
            return NO_SUCH_PLACE;
        }
        System.arraycopy(from.cells, i, to.cells, j, n);
        return n;
    }

    public int cost(int d) {
        int refusal = refusalOfKind(d);
        if (refusal != NO_REFUSAL) {
            return refusal;
        }
        return kinds[shelves[d].kind].price(shelves[d].figure);
    }

    public int toss(int d) {
        int refusal = refusalOfKind(d);
        if (refusal != NO_REFUSAL) {
            return refusal;
        }
        Cat kind = kinds[shelves[d].kind];
        int figure = shelves[d].figure;
        try {
            kind.fail(figure);
        } catch (IllegalStateException failure) {
            return kind.failure(figure);
        }
        return NO_FAILURE;
    }

    // ---- what the calls share

    private void lookAhead(int n) {
        mind.becomes(now);
        mind.goOn(n);
    }

    private int refusalOfRow(int d) {
        return refusalUnlessHeld(d, Shelf.ROW);
    }

    private int refusalOfKind(int d) {
        return refusalUnlessHeld(d, Shelf.KIND);
    }

    private int refusalUnlessHeld(int d, int wanted) {
        if (!isShelf(d)) {
            return NO_SUCH_ONE;
        }
        if (shelves[d].holds == Shelf.NOTHING) {
            return NOTHING_HELD;
        }
        return shelves[d].holds == wanted ? NO_REFUSAL : OTHER_KIND;
    }

    private static boolean isWithin(int v, int least, int most) {
        return v >= least && v <= most;
    }

    private static boolean isShelf(int d) {
        return isWithin(d, 0, SHELVES - 1);
    }

    private static boolean isPlace(int place) {
        return isWithin(place, 0, PLACES - 1);
    }

    private static boolean isSide(int side) {
        return isWithin(side, 0, 1);
    }

    private static boolean isKind(int kind) {
        return isWithin(kind, 0, KINDS - 1);
    }

    private static boolean isAhead(int n) {
        return isWithin(n, 0, FARTHEST);
    }

    private static int sideOf(int place) {
        return place <= LAST_OF_SIDE_0 ? 0 : 1;
    }

    /** All that there is but the shelves: as it is now, in mind, or in the image. */
    private static final class Frontier {
        final Cat[] kinds;
        final int[] kind = new int[MOST_CATS];
        final int[] figure = new int[MOST_CATS];
        final int[] at = new int[MOST_CATS];
        final int[] hair = new int[MOST_CATS];
        final int[] name = new int[MOST_CATS];
        final int[] side = new int[MOST_MEN];
        final int[] fish = new int[PLACES];
        final int[] mice = new int[PLACES];
        int cats;
        int men;
        int hour = FIRST_HOUR;
        int day;
        /** A bit for each man. */
        int passed;
        /** A bit for each cat: which crossed in the hour that went by last. */
        int crossed;

        Frontier(Cat[] kinds) {
            this.kinds = kinds;
        }

        void becomes(Frontier other) {
            System.arraycopy(other.kind, 0, kind, 0, MOST_CATS);
            System.arraycopy(other.figure, 0, figure, 0, MOST_CATS);
            System.arraycopy(other.at, 0, at, 0, MOST_CATS);
            System.arraycopy(other.hair, 0, hair, 0, MOST_CATS);
            System.arraycopy(other.name, 0, name, 0, MOST_CATS);
            System.arraycopy(other.side, 0, side, 0, MOST_MEN);
            System.arraycopy(other.fish, 0, fish, 0, PLACES);
            System.arraycopy(other.mice, 0, mice, 0, PLACES);
            cats = other.cats;
            men = other.men;
            hour = other.hour;
            day = other.day;
            passed = other.passed;
            crossed = other.crossed;
        }

        boolean hasCat(int cat) {
            return cat >= 0 && cat < cats;
        }

        boolean hasMan(int man) {
            return man >= 0 && man < men;
        }

        boolean hasName(int man) {
            return man == NO_NAME || hasMan(man);
        }

        boolean hasPassed(int man) {
            return (passed >> man & 1) == 1;
        }

        boolean hasCrossed(int cat) {
            return (crossed >> cat & 1) == 1;
        }

        boolean hasDaysFor(int n) {
            return day + (hour + n) / HOURS_IN_A_DAY <= LAST_DAY;
        }

        boolean addCat(int ofKind, int withFigure, int place) {
            if (cats >= MOST_CATS) {
                return false;
            }
            kind[cats] = ofKind;
            figure[cats] = withFigure;
            at[cats] = place;
            hair[cats] = 0;
            name[cats] = NO_NAME;
            cats++;
            return true;
        }

        boolean addMan(int onSide) {
            if (men >= MOST_MEN) {
                return false;
            }
            side[men] = onSide;
            men++;
            return true;
        }

        void giveName(int cat, int man) {
            name[cat] = man;
            hair[cat] = 0;
        }

        void addFish(int place, int v) {
            fish[place] = Math.min(MOST_AT_A_PLACE, fish[place] + v);
        }

        void goOn(int n) {
            for (int h = 0; h < n; h++) {
                anHour();
            }
        }

        /** Does much by itself, because calls may go eight deep and some come here four deep already. */
        void anHour() {
            crossed = 0;
            for (int cat = 0; cat < cats; cat++) {
                Cat its = kinds[kind[cat]];
                int from = at[cat];
                int pace = its.pace(figure[cat], hour);
                int way = its.goal(this, cat) - from;
                int to = from + Math.max(-pace, Math.min(pace, way));
                at[cat] = to;
                if (to != from && fish[to] > 0) {
                    fish[to]--;
                }
                grow(cat);
                if (sideOf(from) != sideOf(to)) {
                    crossed |= 1 << cat;
                    letPass(cat, sideOf(from));
                }
            }
            turnClock();
        }

        void anHourOfDogs() {
            crossed = 0;
            for (int cat = 0; cat < cats; cat++) {
                grow(cat);
            }
            turnClock();
        }

        void grow(int cat) {
            hair[cat] = Math.min(MOST_HAIR, hair[cat] + kinds[kind[cat]].grows());
        }

        private void letPass(int cat, int from) {
            int man = name[cat];
            if (canBeRead(cat) && hasMan(man) && side[man] == from && !hasPassed(man)) {
                passed |= 1 << man;
                side[man] = 1 - from;
            }
        }

        private void turnClock() {
            hour++;
            if (hour == HOURS_IN_A_DAY) {
                hour = 0;
                day++;
            }
        }

        int goalOf(int cat) {
            return kinds[kind[cat]].goal(this, cat);
        }

        int paceOf(int cat, int atHour) {
            return kinds[kind[cat]].pace(figure[cat], atHour);
        }

        boolean canBeRead(int cat) {
            return name[cat] != NO_NAME && kinds[kind[cat]].showsSkin(hair[cat]);
        }

        int readableCats() {
            int bits = 0;
            for (int cat = 0; cat < cats; cat++) {
                if (canBeRead(cat)) {
                    bits |= 1 << cat;
                }
            }
            return bits;
        }

        int catsAt(int place) {
            int bits = 0;
            for (int cat = 0; cat < cats; cat++) {
                if (at[cat] == place) {
                    bits |= 1 << cat;
                }
            }
            return bits;
        }

        int placesOfCats() {
            int bits = 0;
            for (int cat = 0; cat < cats; cat++) {
                bits |= 1 << at[cat];
            }
            return bits;
        }

        int catsOnSide1() {
            int there = 0;
            for (int cat = 0; cat < cats; cat++) {
                there += sideOf(at[cat]);
            }
            return there;
        }

        int allFish() {
            int sum = 0;
            for (int place = 0; place < PLACES; place++) {
                sum += fish[place];
            }
            return sum;
        }

        int richestPlace(int[] stock, int from) {
            int best = from;
            for (int place = 0; place < PLACES; place++) {
                if (stock[place] > stock[best]
                        || stock[place] == stock[best] && Math.abs(place - from) < Math.abs(best - from)) {
                    best = place;
                }
            }
            return best;
        }

        int placeOfNearestOther(int cat) {
            int best = cat;
            int least = PLACES;
            for (int other = 0; other < cats; other++) {
                int far = Math.abs(at[other] - at[cat]);
                if (other != cat && far < least) {
                    best = other;
                    least = far;
                }
            }
            return at[best];
        }
    }

    /** KIND 0, and what every KIND under it is unless it says otherwise; one object serves all cats of a KIND. */
    private static class Cat {
        int goal(Frontier land, int cat) {
            return land.richestPlace(land.fish, land.at[cat]);
        }

        int pace(int figure, int hour) {
            return 1 + figure / 4;
        }

        int grows() {
            return 1;
        }

        boolean showsSkin(int hair) {
            return hair < HAIR_HIDES;
        }

        int price(int figure) {
            return 3;
        }

        void fail(int figure) {
            if (figure != 0) {
                throw new IllegalStateException("failure");
            }
        }

        int failure(int figure) {
            return figure;
        }
    }

    private static class Mouser extends Cat {
        int goal(Frontier land, int cat) {
            return land.richestPlace(land.mice, land.at[cat]);
        }

        int price(int figure) {
            return super.price(figure) + figure;
        }
    }

    private static class Tom extends Cat {
        int goal(Frontier land, int cat) {
            return land.placeOfNearestOther(cat);
        }

        int pace(int figure, int hour) {
            return super.pace(figure, hour) + 1;
        }

        int price(int figure) {
            return 2;
        }

        int failure(int figure) {
            return super.failure(figure) + 100;
        }
    }

    private static class White extends Cat {
        int goal(Frontier land, int cat) {
            return land.at[cat];
        }

        int grows() {
            return 2;
        }

        int price(int figure) {
            return super.price(figure) + 5;
        }

        void fail(int figure) {
            // has none
        }
    }

    private static final class Kitten extends Mouser {
        int goal(Frontier land, int cat) {
            return land.hour % 2 == 0 ? PLACES - 1 - land.at[cat] : land.at[cat];
        }

        int pace(int figure, int hour) {
            return 3;
        }

        int price(int figure) {
            return super.price(figure) / 2;
        }
    }

    private static final class Shell extends White {
        private static final int NIGHT_FROM = 20;
        private static final int NIGHT_TO = 4;

        int goal(Frontier land, int cat) {
            boolean night = land.hour >= NIGHT_FROM || land.hour <= NIGHT_TO;
            return night ? land.richestPlace(land.fish, land.at[cat]) : super.goal(land, cat);
        }

        int grows() {
            return 0;
        }

        boolean showsSkin(int hair) {
            return true;
        }

        int price(int figure) {
            return 2 * super.price(figure);
        }
    }

    private static final class Spy extends Tom {
        int pace(int figure, int hour) {
            return 2 * super.pace(figure, hour);
        }

        int price(int figure) {
            return super.price(figure) + figure;
        }

        int failure(int figure) {
            return 200 + price(figure);
        }
    }

    private static final class Old extends Cat {
        int pace(int figure, int hour) {
            return hour % 3 == 0 ? 1 : 0;
        }

        int price(int figure) {
            return 0;
        }

        void fail(int figure) {
            // has none
        }
    }

    private static final class Shelf {
        static final int NOTHING = 0;
        static final int KIND = 1;
        static final int ROW = 2;

        int holds = NOTHING;
        int kind;
        int figure;
        int sort;
        int size;
        final int[] cells = new int[LONGEST_ROW];

        void holdNothing() {
            holds = NOTHING;
        }

        void holdKind(int ofKind, int withFigure) {
            holds = KIND;
            kind = ofKind;
            figure = withFigure;
        }

        void holdRow(int ofSort, int elements) {
            holds = ROW;
            sort = ofSort;
            size = elements;
            Arrays.fill(cells, 0);
        }

        boolean hasElement(int i) {
            return i >= 0 && i < size;
        }

        boolean hasStretch(int from, int n) {
            return from >= 0 && n >= 0 && n <= size - from;
        }

        /** 0 beyond the end, which is no sign of a text. */
        int get(int i) {
            return hasElement(i) ? cells[i] : 0;
        }

        void set(int i, int v) {
            if (!hasElement(i)) {
                return;
            }
            switch (sort) {
                case BYTES: cells[i] = (byte) v; break;
                case SHORTS: cells[i] = (short) v; break;
                default: cells[i] = v;
            }
        }

        boolean isSkipped(int i) {
            switch (sort) {
                case BYTES: return get(i) == LEAST_BYTE;
                case SHORTS: return get(i) == LEAST_SHORT;
                default: return get(i) == LEAST_INT;
            }
        }
    }

    /** The text of a frontier, read from a row of bytes. */
    private static final class Text {
        static final int NO_BAD_BYTE = -1;

        /** 0 for a sign with which no statement begins. */
        static int digitsBehind(int letter) {
            switch (letter) {
                case 'c': return 4;
                case 'm': return 1;
                case 'f': return 3;
                case 'x': return 3;
                case 'w': return 2;
                case 'h': return 2;
                default: return 0;
            }
        }

        static int length(int letter) {
            return 1 + digitsBehind(letter) + 1;
        }

        /** The size of the text where its end comes too early. */
        static int firstBadByte(Shelf text) {
            int letter = 0;
            do {
                int digits = digitsBehind(text.get(letter));
                if (digits == 0) {
                    return letter;
                }
                for (int i = letter + 1; i <= letter + digits; i++) {
                    if (text.get(i) < '0' || text.get(i) > '9') {
                        return i;
                    }
                }
                if (text.get(letter + digits + 1) != ';') {
                    return letter + digits + 1;
                }
                letter += digits + 2;
            } while (letter < text.size);
            return NO_BAD_BYTE;
        }

        /** False, and nothing changed, if the statement is not as it must be. */
        static boolean isDone(Shelf text, int letter, Frontier land) {
            switch (text.get(letter)) {
                case 'c': return catIsAdded(text, letter, land);
                case 'm': return manIsAdded(text, letter, land);
                case 'f': return stockIsLaid(text, letter, land.fish);
                case 'x': return stockIsLaid(text, letter, land.mice);
                case 'w': return nameIsGiven(text, letter, land);
                default: break;
            }
            int hours = number(text, letter + 1, 2);
            if (!isWithin(hours, 1, MOST_HOURS_AT_ONCE) || !land.hasDaysFor(hours)) {
                return false;
            }
            land.goOn(hours);
            return true;
        }

        private static boolean catIsAdded(Shelf text, int letter, Frontier land) {
            int kind = number(text, letter + 1, 1);
            int figure = number(text, letter + 2, 1);
            int at = number(text, letter + 3, 2);
            return isKind(kind) && isPlace(at) && land.addCat(kind, figure, at);
        }

        private static boolean manIsAdded(Shelf text, int letter, Frontier land) {
            int side = number(text, letter + 1, 1);
            return isSide(side) && land.addMan(side);
        }

        private static boolean stockIsLaid(Shelf text, int letter, int[] stock) {
            int place = number(text, letter + 1, 2);
            if (!isPlace(place)) {
                return false;
            }
            stock[place] = number(text, letter + 3, 1);
            return true;
        }

        private static boolean nameIsGiven(Shelf text, int letter, Frontier land) {
            int cat = number(text, letter + 1, 1);
            int man = number(text, letter + 2, 1);
            if (!land.hasCat(cat) || !land.hasName(man)) {
                return false;
            }
            land.giveName(cat, man);
            return true;
        }

        private static int number(Shelf text, int from, int digits) {
            int value = 0;
            for (int i = from; i < from + digits; i++) {
                value = 10 * value + text.get(i) - '0';
            }
            return value;
        }
    }
}
