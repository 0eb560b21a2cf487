/** A chain that leaps out of a jar, and stories that tell why it does. */
public final class ChainLeap {

    private static final int NO_SUCH = -1;
    private static final int NO_ROOM = -2;
    private static final int NOT_NOW = -3;
    private static final int TELLS_NONE = -4;
    private static final int NOTHING_HELD = -11;
    private static final int OTHER_KIND = -12;
    private static final int NO_PLACE = -13;
    private static final int SIZE_BELOW_ZERO = -14;
    private static final int NO_FAILURE = -15;

    /** Put to the refusals of calls that also answer numbers below 0. */
    private static final int APART = -1000000000;

    private static final int SHELF_COUNT = 8;
    private static final int TRY_ROOM = 8;
    private static final int ROW_ROOM = 100;
    private static final int KIND_COUNT = 8;
    private static final int LAST_KIND = 7;
    private static final int MOST_FIGURE = 40;
    private static final int LEAST_LENGTH = 10;
    private static final int MOST_LENGTH = 9999;
    private static final int MOST_OFF = 9999;
    private static final int LAST_TICK = 9999;
    private static final int MOST_TICKS = 500;
    private static final int LAST_DONE_TICK = 2000;
    private static final int FULL = 100;

    // The least numbers of the SORTS stand for what a film doesn't tell.
    private static final int LEAST_BYTE = -128;
    private static final int LEAST_SHORT = -32768;
    private static final int LEAST_INT = -2147483648;

    /** How stiff, how far it bends, how it is laid, how high the jar stands: a TRY, and what the CHAIN has of it. */
    private static final class Setting {
        private int rod = 50;
        private int bend = 20;
        private int laid = 0;
        private int drop = 100;

        void take(Setting other) {
            rod = other.rod;
            bend = other.bend;
            laid = other.laid;
            drop = other.drop;
        }

        boolean isAsTold() {
            return isWithin(rod, 0, FULL) && isWithin(bend, 0, FULL) && isWithin(laid, 0, 2) && isWithin(drop, 1, 400);
        }
    }

    /** A STORY of one of the KINDS, with its FIGURE. */
    private static final class Tale {
        private static final int KICKED = 1;
        private static final int BENT = 2;
        private static final int THROWN = 3;
        private static final int DRAWN = 4;
        private static final int AIRED = 5;
        private static final int BOUNCED = 6;
        private static final int NONE = 7;

        private int kind = 0;
        private int figure = 0;

        void become(int newKind, int newFigure) {
            kind = newKind;
            figure = newFigure;
        }

        int kick(Setting by) {
            switch (kind) {
                case KICKED:
                case DRAWN:
                    return kickOfKicked(by);
                case BENT:
                    return kickOfKicked(by) * (FULL - by.bend) / 100;
                case THROWN:
                    return kickOfThrown(by);
                case BOUNCED:
                    return kickOfKicked(by) / 2;
                default:
                    return 0;
            }
        }

        private int kickOfKicked(Setting by) {
            return figure * by.rod / 100;
        }

        private int kickOfThrown(Setting by) {
            switch (by.laid) {
                case 0:
                    return figure / 2;
                case 1:
                    return figure;
                default:
                    return 0;
            }
        }

        int draw() {
            return kind == DRAWN ? figure : 0;
        }

        int hold() {
            switch (kind) {
                case AIRED:
                    return figure;
                case BOUNCED:
                    return figure / 4;
                default:
                    return 0;
            }
        }

        int less(Setting by) {
            return FULL - kick(by) - draw() + hold();
        }

        /** SHARE times the DROP, at a slant of so many hundredths, cut once. */
        int archAt(Setting by, int slope) {
            int less = less(by);
            if (less <= 0) {
                return TELLS_NONE;
            }
            return kick(by) * by.drop * (100 - slope) / (less * 100);
        }

        int arch(Setting by) {
            return archAt(by, 0);
        }

        int waiting() {
            switch (kind) {
                case KICKED:
                    return waitOfKicked();
                case BENT:
                    return 2 * waitOfKicked();
                case THROWN:
                    return waitOfThrown();
                case DRAWN:
                    return waitOfKicked() + 9;
                case AIRED:
                    return 4 * figure;
                case BOUNCED:
                    return waitOfKicked() / 2;
                case NONE:
                    return waitOfThrown() + 1;
                default:
                    return 4;
            }
        }

        private int waitOfKicked() {
            return 4 + figure;
        }

        private int waitOfThrown() {
            return 4 - figure;
        }

        /** Throws the FAILURE, if there is one: which exception it is tells how it is answered. */
        void fail() {
            if (kind == AIRED || figure == 0) {
                return;
            }
            if (kind == BENT) {
                throw new IllegalArgumentException("a bent one fails");
            }
            if (kind == NONE) {
                throw new UnsupportedOperationException("one of none fails");
            }
            throw new IllegalStateException("a story fails");
        }
    }

    /** How far a chain has run. */
    private static final class Course {
        private int tick = 0;
        private int pace = 0;
        private int arch = 0;
        private int out = 0;
        private int highest = 0;

        void clear() {
            tick = 0;
            pace = 0;
            arch = 0;
            out = 0;
            highest = 0;
        }

        void take(Course other) {
            tick = other.tick;
            pace = other.pace;
            arch = other.arch;
            out = other.out;
            highest = other.highest;
        }

        void step(int kick, int less, int drop, int length) {
            tick++;
            if (out >= length) {
                arch = Math.max(0, arch - 50);
                return;
            }
            // 3000 times 3000 times the most that LESS can be, 140, stays within an int.
            int pull = pace * pace * less / 10000;
            pace = Math.max(0, Math.min(3000, pace + (10 * drop - pull) / 20));
            arch = arch + (pace * pace * kick / 10000 - arch) / 4;
            out = Math.min(length, out + pace / 10);
            highest = Math.max(highest, arch);
        }
    }

    /** All that THE IMAGE holds: the CHAIN, the TRIES, the run. */
    private static final class Scene {
        private final Setting chain = new Setting();
        private int length = 1000;
        private final Setting[] tried = new Setting[TRY_ROOM];
        private int tryCount = 0;
        private final Course course = new Course();

        Scene() {
            for (int i = 0; i < TRY_ROOM; i++) {
                tried[i] = new Setting();
            }
        }

        void take(Scene other) {
            chain.take(other.chain);
            length = other.length;
            for (int i = 0; i < TRY_ROOM; i++) {
                tried[i].take(other.tried[i]);
            }
            tryCount = other.tryCount;
            course.take(other.course);
        }

        boolean hasTry(int i) {
            return i >= 0 && i < tryCount && i < TRY_ROOM;
        }

        boolean isDone() {
            return course.out >= length;
        }

        /** One TICK of a run that may be another than the scene's own. */
        void step(Course walked, Tale by) {
            walked.step(by.kick(chain), by.less(chain), chain.drop, length);
        }

        /** Writes a new TRY behind so many that are not counted yet; false if it is not as told or has no room. */
        boolean writes(Setting read, int ahead) {
            int place = tryCount + ahead;
            if (!read.isAsTold() || place < 0 || place >= TRY_ROOM) {
                return false;
            }
            tried[place].take(read);
            return true;
        }
    }

    /** A place that holds nothing, a STORY or a ROW; its parts are made once and used again. */
    private static final class Shelf {
        private static final int EMPTY = 0;
        private static final int STORY = 1;
        private static final int ROW = 2;

        private int held = EMPTY;
        private final Tale tale = new Tale();
        private int sort = 0;
        private int size = 0;
        private final int[] elements = new int[ROW_ROOM];

        boolean holdsRow() {
            return held == ROW;
        }

        void clear() {
            held = EMPTY;
        }

        void holdStory(int kind, int figure) {
            held = STORY;
            tale.become(kind, figure);
        }

        void holdRow(int newSort, int newSize) {
            held = ROW;
            sort = newSort;
            size = newSize;
            for (int i = 0; i < ROW_ROOM; i++) {
                elements[i] = 0;
            }
        }

        boolean hasPlace(int i) {
            return i >= 0 && i < size && i < ROW_ROOM;
        }

        /** Whether n elements from i on are there; none of them may also begin at the end. */
        boolean hasStretch(int i, int n) {
            return n >= 0 && n <= size && i >= 0 && i <= size - n;
        }

        void change(int i, int v) {
            if (!hasPlace(i)) {
                return;
            }
            switch (sort) {
                case 0:
                    elements[i] = (byte) v;
                    break;
                case 1:
                    elements[i] = (short) v;
                    break;
                default:
                    elements[i] = v;
                    break;
            }
        }

        int at(int i) {
            return hasPlace(i) ? elements[i] : 0;
        }

        boolean tells(int i) {
            switch (sort) {
                case 0:
                    return at(i) != LEAST_BYTE;
                case 1:
                    return at(i) != LEAST_SHORT;
                default:
                    return at(i) != LEAST_INT;
            }
        }
    }

    /** Reads STATEMENTS byte by byte; once broken it stays at the byte that can't be. */
    private static final class Reader {
        private static final int END = -1000;

        private final int[] text = new int[ROW_ROOM];
        private int size = 0;
        private int at = 0;
        private boolean broken = false;

        void open(Shelf shelf) {
            size = Math.min(shelf.size, ROW_ROOM);
            for (int i = 0; i < size; i++) {
                text[i] = shelf.at(i);
            }
            at = 0;
            broken = false;
        }

        boolean isAtEnd() {
            return at >= size;
        }

        void readStatement(Setting chain, Setting into) {
            need('r');
            into.rod = number();
            into.bend = accepts('b') ? number() : chain.bend;
            into.laid = accepts('l') ? digit() : chain.laid;
            into.drop = accepts('d') ? number() : chain.drop;
            need(';');
        }

        private int next() {
            return at >= 0 && at < size && at < ROW_ROOM ? text[at] : END;
        }

        private boolean isAtDigit() {
            return next() >= '0' && next() <= '9';
        }

        private boolean accepts(char sign) {
            if (broken || next() != sign) {
                return false;
            }
            at++;
            return true;
        }

        private void need(char sign) {
            if (!accepts(sign)) {
                broken = true;
            }
        }

        private int digit() {
            if (broken || !isAtDigit()) {
                broken = true;
                return 0;
            }
            int value = next() - '0';
            at++;
            return value;
        }

        private int number() {
            int value = digit();
            // A 0 ahead ends the number, so that a digit behind it is what can't be.
            for (int digits = 1; digits < 3 && !broken && value > 0 && isAtDigit(); digits++) {
                value = 10 * value + digit();
            }
            return value;
        }
    }

    private final Scene scene;
    private final Scene pictured;
    private boolean isPictured;
    private final Shelf[] shelves;
    private final Reader reader;
    private final Setting draft;
    private final Tale fancy;
    private final Tale plain;
    private final Course mind;

    public ChainLeap() {
        scene = new Scene();
        pictured = new Scene();
        isPictured = false;
        shelves = new Shelf[SHELF_COUNT];
        for (int i = 0; i < SHELF_COUNT; i++) {
            shelves[i] = new Shelf();
        }
        reader = new Reader();
        draft = new Setting();
        fancy = new Tale();
        plain = new Tale();
        mind = new Course();
    }

    // ---- what several calls look at

    private static boolean isWithin(int n, int least, int most) {
        return n >= least && n <= most;
    }

    private static boolean isShelf(int d) {
        return d >= 0 && d < SHELF_COUNT;
    }

    /** 0, or why no STORY is on SHELF d. */
    private int storyRefusal(int d) {
        return refusalOf(d, Shelf.STORY);
    }

    /** 0, or why no ROW is on SHELF d. */
    private int rowRefusal(int d) {
        return refusalOf(d, Shelf.ROW);
    }

    private int refusalOf(int d, int wanted) {
        if (!isShelf(d)) {
            return NO_SUCH;
        }
        if (shelves[d].held == Shelf.EMPTY) {
            return NOTHING_HELD;
        }
        return shelves[d].held == wanted ? 0 : OTHER_KIND;
    }

    /** The earlier told of two refusals of -1, -11 and -12, that of SHELF d and that of SHELF e; 0 if neither. */
    private static int firstRefusal(int one, int other) {
        if (one == 0 || other == 0) {
            return one + other;
        }
        return Math.max(one, other);
    }

    private static int putApart(int refusal) {
        return APART + refusal;
    }

    // ---- chains, tries

    public int set(int what, int n) {
        if (!maySet(what, n)) {
            return NO_SUCH;
        }
        if (what == 3 && scene.course.out >= n) {
            return NOT_NOW;
        }
        int before = chainNumber(what);
        switch (what) {
            case 0:
                scene.chain.rod = n;
                break;
            case 1:
                scene.chain.bend = n;
                break;
            case 2:
                scene.chain.laid = n;
                break;
            case 3:
                scene.length = n;
                break;
            default:
                scene.chain.drop = n;
                break;
        }
        return before;
    }

    private static boolean maySet(int what, int n) {
        switch (what) {
            case 0:
            case 1:
                return isWithin(n, 0, FULL);
            case 2:
                return isWithin(n, 0, 2);
            case 3:
                return isWithin(n, LEAST_LENGTH, MOST_LENGTH);
            case 4:
                return isWithin(n, 1, 400);
            default:
                return false;
        }
    }

    private int chainNumber(int what) {
        switch (what) {
            case 0:
                return scene.chain.rod;
            case 1:
                return scene.chain.bend;
            case 2:
                return scene.chain.laid;
            case 3:
                return scene.length;
            case 4:
                return scene.chain.drop;
            default:
                return NO_SUCH;
        }
    }

    public int tries(int d) {
        int refusal = rowRefusal(d);
        if (refusal != 0) {
            return refusal;
        }
        if (shelves[d].sort != 0) {
            return OTHER_KIND;
        }
        return readTries(shelves[d]);
    }

    private int readTries(Shelf text) {
        int statements = 0;
        int wrongPlace = -1;
        reader.open(text);
        // Every STATEMENT takes bytes, so that a ROW never has more of them than elements.
        for (int n = 0; n < ROW_ROOM; n++) {
            int place = reader.at;
            reader.readStatement(scene.chain, draft);
            if (reader.broken) {
                return -1000 - reader.at;
            }
            if (wrongPlace < 0 && !scene.writes(draft, statements)) {
                wrongPlace = place;
            }
            statements++;
            if (reader.isAtEnd()) {
                break;
            }
        }
        if (wrongPlace >= 0) {
            return -2000 - wrongPlace;
        }
        scene.tryCount += statements;
        return statements;
    }

    public int tryOf(int i, int what) {
        if (!scene.hasTry(i)) {
            return NO_SUCH;
        }
        Setting asked = scene.tried[i];
        switch (what) {
            case 0:
                return asked.rod;
            case 1:
                return asked.bend;
            case 2:
                return asked.laid;
            case 3:
                return asked.drop;
            default:
                return NO_SUCH;
        }
    }

    public int leave() {
        if (scene.tryCount <= 0) {
            return NOT_NOW;
        }
        scene.tryCount--;
        return scene.tryCount;
    }

    // ---- stories, runs

    public int story(int d, int what) {
        int refusal = isWithin(what, 0, 2) ? storyRefusal(d) : NO_SUCH;
        if (refusal != 0) {
            return refusal;
        }
        Tale tale = shelves[d].tale;
        switch (what) {
            case 0:
                return tale.kick(scene.chain);
            case 1:
                return tale.draw();
            default:
                return tale.hold();
        }
    }

    public int run(int d, int n) {
        if (!isShelf(d) || !isWithin(n, 1, MOST_TICKS)) {
            return NO_SUCH;
        }
        if (scene.course.tick + n > LAST_TICK) {
            return NO_ROOM;
        }
        int refusal = storyRefusal(d);
        if (refusal != 0) {
            return refusal;
        }
        for (int k = 0; k < n; k++) {
            scene.step(scene.course, shelves[d].tale);
        }
        return scene.course.tick;
    }

    public int anew() {
        int before = scene.course.tick;
        scene.course.clear();
        return before;
    }

    public int state(int what) {
        switch (what) {
            case 0:
                return scene.course.tick;
            case 1:
                return scene.course.pace;
            case 2:
                return scene.course.arch;
            case 3:
                return scene.course.out;
            case 4:
                return scene.course.highest;
            case 5:
                return scene.isDone() ? 1 : 0;
            default:
                return NO_SUCH;
        }
    }

    public int rests(int d, int part) {
        int refusal = isWithin(part, 0, 1) ? storyRefusal(d) : NO_SUCH;
        if (refusal != 0) {
            return refusal;
        }
        int kick = shelves[d].tale.kick(scene.chain);
        int less = shelves[d].tale.less(scene.chain);
        if (less <= 0) {
            return TELLS_NONE;
        }
        if (kick == 0) {
            return part;
        }
        int shared = greatestShared(kick, less);
        if (shared <= 0) {
            return TELLS_NONE;
        }
        return (part == 0 ? kick : less) / shared;
    }

    /** The greatest number that goes into both; 1 at least. */
    private static int greatestShared(int a, int b) {
        for (int n = a; n > 1; n--) {
            if (a % n == 0 && b % n == 0) {
                return n;
            }
        }
        return 1;
    }

    // ---- what stories tell

    public int ahead(int d, int i) {
        int refusal = scene.hasTry(i) ? storyRefusal(d) : NO_SUCH;
        if (refusal != 0) {
            return refusal;
        }
        return shelves[d].tale.arch(scene.tried[i]);
    }

    public int parts(int d, int e, int what) {
        int refusal = isWithin(what, 0, 1) ? firstRefusal(storyRefusal(d), storyRefusal(e)) : NO_SUCH;
        if (refusal != 0) {
            return refusal;
        }
        int best = TELLS_NONE;
        int place = TELLS_NONE;
        for (int i = 0; i < scene.tryCount && i < TRY_ROOM; i++) {
            int unlike = unlikeness(shelves[d].tale, shelves[e].tale, scene.tried[i]);
            if (unlike > best) {
                best = unlike;
                place = i;
            }
        }
        return what == 0 ? place : best;
    }

    private static int unlikeness(Tale one, Tale other, Setting by) {
        int first = one.arch(by);
        int second = other.arch(by);
        if (first < 0 || second < 0) {
            return TELLS_NONE;
        }
        return Math.abs(first - second);
    }

    public int films(int d, int figure, int off) {
        boolean isTold = isWithin(figure, 0, MOST_FIGURE) && isWithin(off, 0, MOST_OFF);
        int refusal = isTold ? filmRefusal(d) : NO_SUCH;
        if (refusal != 0) {
            return refusal;
        }
        int bits = 0;
        for (int kind = 0; kind < KIND_COUNT; kind++) {
            fancy.become(kind, figure);
            if (fits(fancy, shelves[d], off)) {
                bits |= 1 << kind;
            }
        }
        return bits;
    }

    /** 0, or why SHELF d has no ROW of ARCHES for the TRIES. */
    private int filmRefusal(int d) {
        int refusal = rowRefusal(d);
        if (refusal != 0) {
            return refusal;
        }
        return shelves[d].size == scene.tryCount ? 0 : NO_PLACE;
    }

    private boolean fits(Tale tale, Shelf film, int off) {
        for (int i = 0; i < scene.tryCount && i < TRY_ROOM; i++) {
            if (film.tells(i) && !isNear(tale.arch(scene.tried[i]), film.at(i), off)) {
                return false;
            }
        }
        return true;
    }

    private static boolean isNear(int told, int seen, int off) {
        // Elements may be any int, so that their distance needs a long.
        return told >= 0 && Math.abs((long) told - seen) <= off;
    }

    public int numbers(int d, int kind, int off, int what) {
        boolean isTold = isWithin(kind, 0, LAST_KIND) && isWithin(off, 0, MOST_OFF) && isWithin(what, 0, 2);
        int refusal = isTold ? filmRefusal(d) : NO_SUCH;
        if (refusal != 0) {
            return refusal;
        }
        int least = TELLS_NONE;
        int greatest = TELLS_NONE;
        int many = 0;
        for (int figure = 0; figure <= MOST_FIGURE; figure++) {
            fancy.become(kind, figure);
            if (fits(fancy, shelves[d], off)) {
                least = many == 0 ? figure : least;
                greatest = figure;
                many++;
            }
        }
        if (what == 2) {
            return many;
        }
        return what == 0 ? least : greatest;
    }

    public int most(int d) {
        int refusal = storyRefusal(d);
        if (refusal != 0) {
            return refusal;
        }
        int best = TELLS_NONE;
        int named = TELLS_NONE;
        draft.take(scene.chain);
        for (int rod = 0; rod <= 100; rod += 10) {
            for (int bend = 0; bend <= 100; bend += 10) {
                draft.rod = rod;
                draft.bend = bend;
                int told = shelves[d].tale.arch(draft);
                if (told > best) {
                    best = told;
                    named = rod * 1000 + bend;
                }
            }
        }
        return named;
    }

    public int lays(int d) {
        int refusal = storyRefusal(d);
        if (refusal != 0) {
            return refusal;
        }
        int best = TELLS_NONE;
        int named = TELLS_NONE;
        draft.take(scene.chain);
        for (int laid = 0; laid <= 2; laid++) {
            draft.laid = laid;
            int told = shelves[d].tale.arch(draft);
            if (told > best) {
                best = told;
                named = laid;
            }
        }
        return named;
    }

    public int without(int d, int n) {
        int refusal = isWithin(n, 1, MOST_TICKS) ? storyRefusal(d) : NO_SUCH;
        if (refusal != 0) {
            return putApart(refusal);
        }
        return paceBehind(shelves[d].tale, 0, n) - paceBehind(plain, 0, n);
    }

    /** The PACE behind n TICKS of a fresh run with so much more DRAW; mind holds that run then. */
    private int paceBehind(Tale tale, int moreDraw, int n) {
        int kick = tale.kick(scene.chain);
        int less = tale.less(scene.chain) - moreDraw;
        mind.clear();
        for (int k = 0; k < n; k++) {
            mind.step(kick, less, scene.chain.drop, scene.length);
        }
        return mind.pace;
    }

    public int rested(int d) {
        int refusal = storyRefusal(d);
        if (refusal != 0) {
            return refusal;
        }
        mind.clear();
        scene.step(mind, shelves[d].tale);
        for (int k = 1; k <= MOST_TICKS; k++) {
            int pace = mind.pace;
            int arch = mind.arch;
            scene.step(mind, shelves[d].tale);
            if (mind.pace == pace && mind.arch == arch) {
                return k;
            }
        }
        return TELLS_NONE;
    }

    public int when(int d) {
        int refusal = storyRefusal(d);
        if (refusal != 0) {
            return refusal;
        }
        mind.clear();
        for (int k = 1; k <= LAST_DONE_TICK; k++) {
            scene.step(mind, shelves[d].tale);
            if (mind.out >= scene.length) {
                return k;
            }
        }
        return TELLS_NONE;
    }

    public int floor(int d, int n, int t) {
        boolean isTold = isWithin(n, 0, 40) && isWithin(t, 1, MOST_TICKS);
        int refusal = isTold ? storyRefusal(d) : NO_SUCH;
        if (refusal != 0) {
            return putApart(refusal);
        }
        return paceBehind(shelves[d].tale, n, t) - paceBehind(shelves[d].tale, 0, t);
    }

    public int scale(int d, int n) {
        int refusal = isWithin(n, 0, MOST_TICKS) ? storyRefusal(d) : NO_SUCH;
        if (refusal != 0) {
            return refusal;
        }
        int pace = paceBehind(shelves[d].tale, 0, n);
        int kick = shelves[d].tale.kick(scene.chain);
        return (scene.length - mind.out) * 2 + pace * pace * kick / 10000;
    }

    public int slant(int d, int n) {
        int refusal = isWithin(n, 0, 100) ? storyRefusal(d) : NO_SUCH;
        if (refusal != 0) {
            return refusal;
        }
        return shelves[d].tale.archAt(scene.chain, n);
    }

    public int judge(int d, int e) {
        int refusal = firstRefusal(storyRefusal(d), rowRefusal(e));
        if (refusal != 0) {
            return refusal;
        }
        mind.clear();
        Shelf film = shelves[e];
        for (int i = 0; i < film.size && i < ROW_ROOM; i++) {
            scene.step(mind, shelves[d].tale);
            if (film.tells(i) && film.at(i) != mind.pace) {
                return i;
            }
        }
        return TELLS_NONE;
    }

    // ---- the image, what is told

    public int image() {
        pictured.take(scene);
        isPictured = true;
        return scene.course.tick;
    }

    public int restore() {
        if (!isPictured) {
            return NOT_NOW;
        }
        scene.take(pictured);
        return scene.course.tick;
    }

    public int count(int what) {
        if (!isWithin(what, 0, 5)) {
            return NO_SUCH;
        }
        return what == 0 ? scene.tryCount : chainNumber(what - 1);
    }

    // ---- shelves

    public int keep(int d, int what, int k, int figure) {
        if (!isShelf(d) || !isWithin(what, 0, 1)) {
            return NO_SUCH;
        }
        if (what == 0) {
            shelves[d].clear();
            return 0;
        }
        if (!isWithin(k, 0, LAST_KIND) || !isWithin(figure, 0, MOST_FIGURE)) {
            return NO_SUCH;
        }
        shelves[d].holdStory(k, figure);
        return 0;
    }

    public int row(int d, int sort, int n) {
        if (!isShelf(d) || !isWithin(sort, 0, 2) || n > ROW_ROOM) {
            return NO_SUCH;
        }
        if (n < 0) {
            return SIZE_BELOW_ZERO;
        }
        shelves[d].holdRow(sort, n);
        return 0;
    }

    public int put(int d, int i, int v) {
        int refusal = rowRefusal(d);
        if (refusal != 0) {
            return refusal;
        }
        if (!shelves[d].hasPlace(i)) {
            return NO_PLACE;
        }
        shelves[d].change(i, v);
        return 0;
    }

    public long element(int d, int i) throws IllegalArgumentException, IllegalStateException {
        if (!isShelf(d)) {
            throw new IllegalArgumentException("no such shelf");
        }
        if (!shelves[d].holdsRow() || !shelves[d].hasPlace(i)) {
            throw new IllegalStateException("no row, or no such place");
        }
        return shelves[d].at(i);
    }

    public int copy(int d, int i, int e, int j, int n) {
        int refusal = firstRefusal(rowRefusal(d), rowRefusal(e));
        if (refusal != 0) {
            return refusal;
        }
        Shelf from = shelves[d];
        Shelf to = shelves[e];
        if (from.sort != to.sort) {
            return OTHER_KIND;
        }
        if (!from.hasStretch(i, n) || !to.hasStretch(j, n)) {
            return NO_PLACE;
        }
        System.arraycopy(from.elements, i, to.elements, j, n);
        return n;
    }

    public int waits(int d) {
        int refusal = storyRefusal(d);
        if (refusal != 0) {
            return putApart(refusal);
        }
        return shelves[d].tale.waiting();
    }

    public int toss(int d) {
        int refusal = storyRefusal(d);
        if (refusal != 0) {
            return refusal;
        }
        return tossed(shelves[d].tale);
    }

    private static int tossed(Tale tale) {
        try {
            tale.fail();
            return NO_FAILURE;
        } catch (IllegalArgumentException bent) {
            return tale.figure + 100;
        } catch (UnsupportedOperationException ofNone) {
            return 200 + tale.waiting();
        } catch (IllegalStateException other) {
            return tale.figure;
        }
    }
}
