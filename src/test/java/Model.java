import java.math.BigInteger;
import java.util.ArrayList;
import java.util.Collections;
import java.util.List;
import java.util.function.IntToLongFunction;
import java.util.function.ToLongFunction;
import java.util.regex.Matcher;
import java.util.regex.Pattern;

/** The document written a second time, in another way than the class, to be held beside it. */
final class Model {
    private static final Pattern NUMBER_PARTS = Pattern.compile(
        "r(0|[1-9][0-9]{0,2})(?:b(0|[1-9][0-9]{0,2}))?(?:l([0-9]))?(?:d(0|[1-9][0-9]{0,2}))?;");
    private static final Pattern WHOLE = Pattern.compile("(?:" + NUMBER_PARTS.pattern() + ")+");
    private static final int APART = -1000000000;

    /** ROD, BEND, LAID, DROP, LENGTH. */
    private record Chain(long rod, long bend, long laid, long drop, long length) {
        Chain with(int what, long n) {
            return new Chain(what == 0 ? n : rod, what == 1 ? n : bend, what == 2 ? n : laid, what == 4 ? n : drop,
                what == 3 ? n : length);
        }

        long told(int what) {
            return new long[] {rod, bend, laid, length, drop}[what];
        }
    }

    private record Story(int kind, long figure) {
        long kick(Chain c) {
            long kicked = figure * c.rod / 100;
            long thrown = new long[] {figure / 2, figure, 0}[(int) c.laid];
            return new long[] {0, kicked, kicked * (100 - c.bend) / 100, thrown, kicked, 0, kicked / 2, 0}[kind];
        }

        long draw() {
            return kind == 4 ? figure : 0;
        }

        long hold() {
            return kind == 5 ? figure : kind == 6 ? figure / 4 : 0;
        }

        long less(Chain c) {
            return 100 - kick(c) - draw() + hold();
        }

        long arch(Chain c) {
            return less(c) > 0 ? kick(c) * c.drop / less(c) : -4;
        }

        long waits() {
            long f = figure;
            return new long[] {4, 4 + f, 2 * (4 + f), 4 - f, 13 + f, 4 * f, (4 + f) / 2, 5 - f}[kind];
        }
    }

    private record Run(int tick, long pace, long arch, long out, long highest) {
        Run next(long kick, long less, long drop, long length) {
            if (out == length) {
                return new Run(tick + 1, pace, Math.max(0, arch - 50), out, highest);
            }
            long v = Math.min(3000, Math.max(0, pace + (10 * drop - pace * pace * less / 10000) / 20));
            long y = arch + (v * v * kick / 10000 - arch) / 4;
            return new Run(tick + 1, v, y, Math.min(length, out + v / 10), Math.max(highest, y));
        }

        Run next(Story s, Chain c) {
            return next(s.kick(c), s.less(c), c.drop, c.length);
        }
    }

    private record Row(int sort, List<Long> elements) {
        boolean skips(int i) {
            return elements.get(i) == new long[] {-128, -32768, Integer.MIN_VALUE}[sort];
        }
    }

    private record Picture(Chain chain, List<Chain> tries, Run run) {
    }

    private static final Run FRESH = new Run(0, 0, 0, 0, 0);

    private Chain chain = new Chain(50, 20, 0, 100, 1000);
    private List<Chain> tries = new ArrayList<>();
    private Run run = FRESH;
    private Picture picture = null;
    private final Object[] shelves = new Object[8];

    private static boolean in(long n, long least, long most) {
        return least <= n && n <= most;
    }

    private Object on(int d) {
        return in(d, 0, 7) ? shelves[d] : null;
    }

    /** -1, -11 or -12 of shelves in this order, or what the answer is if there is none of them. */
    private long behind(boolean asTold, int[] d, Class<?>[] wanted, IntToLongFunction answer) {
        boolean shelvesAreThere = true;
        boolean nothing = false;
        boolean other = false;
        for (int k = 0; k < d.length; k++) {
            shelvesAreThere &= in(d[k], 0, 7);
            nothing |= on(d[k]) == null;
            other |= !wanted[k].isInstance(on(d[k]));
        }
        if (!asTold || !shelvesAreThere) {
            return -1;
        }
        return nothing ? -11 : other ? -12 : answer.applyAsLong(0);
    }

    private long byStory(boolean asTold, int d, ToLongFunction<Story> answer) {
        return behind(asTold, new int[] {d}, new Class<?>[] {Story.class}, z -> answer.applyAsLong((Story) shelves[d]));
    }

    private long byRow(boolean asTold, int d, ToLongFunction<Row> answer) {
        return behind(asTold, new int[] {d}, new Class<?>[] {Row.class}, z -> answer.applyAsLong((Row) shelves[d]));
    }

    private static long apart(long answer, boolean refused) {
        return refused ? APART + answer : answer;
    }

    long set(int what, int n) {
        int[] least = {0, 0, 0, 10, 1};
        int[] most = {100, 100, 2, 9999, 400};
        if (!in(what, 0, 4) || !in(n, least[what], most[what])) {
            return -1;
        }
        if (what == 3 && run.out >= n) {
            return -3;
        }
        long before = chain.told(what);
        chain = chain.with(what, n);
        return before;
    }

    long tries(int d) {
        return byRow(true, d, row -> row.sort == 0 ? read(row) : -12);
    }

    private long read(Row row) {
        StringBuilder text = new StringBuilder();
        row.elements.forEach(b -> text.append((char) (b & 255)));
        Matcher whole = WHOLE.matcher(text);
        for (int n = 1; n <= text.length(); n++) {
            Matcher ahead = WHOLE.matcher(text.substring(0, n));
            if (!ahead.matches() && !ahead.hitEnd()) {
                return -1000 - (n - 1);
            }
        }
        if (!whole.matches()) {
            return -1000 - text.length();
        }
        List<Chain> come = new ArrayList<>(tries);
        Matcher each = NUMBER_PARTS.matcher(text);
        while (each.find()) {
            Chain c = chain.with(0, Integer.parseInt(each.group(1)));
            c = each.group(2) == null ? c : c.with(1, Integer.parseInt(each.group(2)));
            c = each.group(3) == null ? c : c.with(2, Integer.parseInt(each.group(3)));
            c = each.group(4) == null ? c : c.with(4, Integer.parseInt(each.group(4)));
            boolean asTold = in(c.rod, 0, 100) && in(c.bend, 0, 100) && in(c.laid, 0, 2) && in(c.drop, 1, 400);
            if (!asTold || come.size() == 8) {
                return -2000 - each.start();
            }
            come.add(c);
        }
        long many = come.size() - tries.size();
        tries = come;
        return many;
    }

    long tryOf(int i, int what) {
        return in(i, 0, tries.size() - 1) && in(what, 0, 3) ? tries.get(i).told(what == 3 ? 4 : what) : -1;
    }

    long leave() {
        if (tries.isEmpty()) {
            return -3;
        }
        tries = new ArrayList<>(tries.subList(0, tries.size() - 1));
        return tries.size();
    }

    long story(int d, int what) {
        return byStory(in(what, 0, 2), d, s -> what == 0 ? s.kick(chain) : what == 1 ? s.draw() : s.hold());
    }

    long run(int d, int n) {
        boolean asTold = in(d, 0, 7) && in(n, 1, 500);
        if (asTold && run.tick + n > 9999) {
            return -2;
        }
        return byStory(asTold, d, s -> {
            for (int k = 0; k < n; k++) {
                run = run.next(s, chain);
            }
            return run.tick;
        });
    }

    long anew() {
        long before = run.tick;
        run = FRESH;
        return before;
    }

    long state(int what) {
        long done = run.out == chain.length ? 1 : 0;
        return in(what, 0, 5) ? new long[] {run.tick, run.pace, run.arch, run.out, run.highest, done}[what] : -1;
    }

    long rests(int d, int part) {
        return byStory(in(part, 0, 1), d, s -> {
            long kick = s.kick(chain);
            long less = s.less(chain);
            long shared = BigInteger.valueOf(kick).gcd(BigInteger.valueOf(less)).longValue();
            return less <= 0 ? -4 : part == 0 ? kick / shared : less / shared;
        });
    }

    long ahead(int d, int i) {
        return byStory(in(i, 0, tries.size() - 1), d, s -> s.arch(tries.get(i)));
    }

    long parts(int d, int e, int what) {
        return behind(in(what, 0, 1), new int[] {d, e}, new Class<?>[] {Story.class, Story.class}, z -> {
            long place = -4;
            long unlike = -4;
            for (int i = tries.size() - 1; i >= 0; i--) {
                long one = ((Story) shelves[d]).arch(tries.get(i));
                long other = ((Story) shelves[e]).arch(tries.get(i));
                if (Math.abs(one - other) >= unlike) {
                    unlike = Math.abs(one - other);
                    place = i;
                }
            }
            return what == 0 ? place : unlike;
        });
    }

    private boolean does(Story s, Row film, long off) {
        for (int i = 0; i < tries.size(); i++) {
            long told = s.arch(tries.get(i));
            if (!film.skips(i) && !in(film.elements.get(i), told - off, told + off)) {
                return false;
            }
        }
        return true;
    }

    long films(int d, int figure, int off) {
        return byRow(in(figure, 0, 40) && in(off, 0, 9999), d, film -> {
            if (film.elements.size() != tries.size()) {
                return -13;
            }
            long bits = 0;
            for (int kind = 7; kind >= 0; kind--) {
                bits = 2 * bits + (does(new Story(kind, figure), film, off) ? 1 : 0);
            }
            return bits;
        });
    }

    long numbers(int d, int kind, int off, int what) {
        return byRow(in(kind, 0, 7) && in(off, 0, 9999) && in(what, 0, 2), d, film -> {
            if (film.elements.size() != tries.size()) {
                return -13;
            }
            List<Integer> all = new ArrayList<>();
            for (int figure = 0; figure <= 40; figure++) {
                if (does(new Story(kind, figure), film, off)) {
                    all.add(figure);
                }
            }
            return what == 2 ? all.size() : all.isEmpty() ? -4 : all.get(what == 0 ? 0 : all.size() - 1);
        });
    }

    long most(int d) {
        return byStory(true, d, s -> {
            long named = -4;
            long best = -1;
            for (int n = 120; n >= 0; n--) {
                long arch = s.arch(chain.with(0, n / 11 * 10).with(1, n % 11 * 10));
                if (arch >= best) {
                    best = arch;
                    named = n / 11 * 10000 + n % 11 * 10;
                }
            }
            return named;
        });
    }

    long lays(int d) {
        return byStory(true, d, s -> {
            long[] told = {s.arch(chain.with(2, 0)), s.arch(chain.with(2, 1)), s.arch(chain.with(2, 2))};
            long best = Math.max(told[0], Math.max(told[1], told[2]));
            return told[0] == best ? 0 : told[1] == best ? 1 : 2;
        });
    }

    private Run behindTicks(Story s, long more, int n) {
        Run r = FRESH;
        for (int k = 0; k < n; k++) {
            r = r.next(s.kick(chain), 100 - s.kick(chain) - (s.draw() + more) + s.hold(), chain.drop, chain.length);
        }
        return r;
    }

    long without(int d, int n) {
        boolean refused = byStory(in(n, 1, 500), d, s -> 0) < 0;
        return apart(byStory(in(n, 1, 500), d,
            s -> behindTicks(s, 0, n).pace - behindTicks(new Story(0, 0), 0, n).pace), refused);
    }

    long rested(int d) {
        return byStory(true, d, s -> {
            for (int t = 1; t <= 500; t++) {
                Run one = behindTicks(s, 0, t);
                Run next = one.next(s, chain);
                if (one.pace == next.pace && one.arch == next.arch) {
                    return t;
                }
            }
            return -4;
        });
    }

    long when(int d) {
        return byStory(true, d, s -> {
            Run r = FRESH;
            while (r.tick < 2000) {
                r = r.next(s, chain);
                if (r.out == chain.length) {
                    return r.tick;
                }
            }
            return -4;
        });
    }

    long floor(int d, int n, int t) {
        boolean asTold = in(n, 0, 40) && in(t, 1, 500);
        boolean refused = byStory(asTold, d, s -> 0) < 0;
        return apart(byStory(asTold, d, s -> behindTicks(s, n, t).pace - behindTicks(s, 0, t).pace), refused);
    }

    long scale(int d, int n) {
        return byStory(in(n, 0, 500), d, s -> {
            Run r = behindTicks(s, 0, n);
            return 2 * (chain.length - r.out) + r.pace * r.pace * s.kick(chain) / 10000;
        });
    }

    long slant(int d, int n) {
        return byStory(in(n, 0, 100), d,
            s -> s.less(chain) > 0 ? s.kick(chain) * chain.drop * (100 - n) / (100 * s.less(chain)) : -4);
    }

    long judge(int d, int e) {
        return behind(true, new int[] {d, e}, new Class<?>[] {Story.class, Row.class}, z -> {
            Row film = (Row) shelves[e];
            for (int i = 0; i < film.elements.size(); i++) {
                if (!film.skips(i) && film.elements.get(i) != behindTicks((Story) shelves[d], 0, i + 1).pace) {
                    return i;
                }
            }
            return -4;
        });
    }

    long image() {
        picture = new Picture(chain, tries, run);
        return run.tick;
    }

    long restore() {
        if (picture == null) {
            return -3;
        }
        chain = picture.chain;
        tries = picture.tries;
        run = picture.run;
        return run.tick;
    }

    long count(int what) {
        return what == 0 ? tries.size() : in(what, 1, 5) ? chain.told(what - 1) : -1;
    }

    long keep(int d, int what, int k, int figure) {
        if (!in(d, 0, 7) || !in(what, 0, 1) || what == 1 && (!in(k, 0, 7) || !in(figure, 0, 40))) {
            return -1;
        }
        shelves[d] = what == 0 ? null : new Story(k, figure);
        return 0;
    }

    long row(int d, int sort, int n) {
        if (!in(d, 0, 7) || !in(sort, 0, 2) || n > 100) {
            return -1;
        }
        if (n < 0) {
            return -14;
        }
        shelves[d] = new Row(sort, new ArrayList<>(Collections.nCopies(n, 0L)));
        return 0;
    }

    long put(int d, int i, int v) {
        return byRow(true, d, row -> {
            if (!in(i, 0, row.elements.size() - 1)) {
                return -13;
            }
            int away = new int[] {24, 16, 0}[row.sort];
            row.elements.set(i, (long) (v << away >> away));
            return 0;
        });
    }

    long element(int d, int i) {
        if (!in(d, 0, 7)) {
            throw new IllegalArgumentException();
        }
        if (!(shelves[d] instanceof Row row) || !in(i, 0, row.elements.size() - 1)) {
            throw new IllegalStateException();
        }
        return row.elements.get(i);
    }

    long copy(int d, int i, int e, int j, int n) {
        return behind(true, new int[] {d, e}, new Class<?>[] {Row.class, Row.class}, z -> {
            Row from = (Row) shelves[d];
            Row to = (Row) shelves[e];
            if (from.sort != to.sort) {
                return -12;
            }
            boolean there = n >= 0 && i >= 0 && j >= 0;
            if (!there || (long) i + n > from.elements.size() || (long) j + n > to.elements.size()) {
                return -13;
            }
            List<Long> taken = new ArrayList<>(from.elements.subList(i, i + n));
            for (int k = 0; k < n; k++) {
                to.elements.set(j + k, taken.get(k));
            }
            return n;
        });
    }

    long waits(int d) {
        boolean refused = byStory(true, d, s -> 0) < 0;
        return apart(byStory(true, d, Story::waits), refused);
    }

    long toss(int d) {
        return byStory(true, d, s -> s.kind == 5 || s.figure == 0 ? -15
            : s.kind == 7 ? 200 + s.waits() : s.kind == 2 ? s.figure + 100 : s.figure);
    }
}
