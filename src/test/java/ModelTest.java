import java.util.ArrayList;
import java.util.Arrays;
import java.util.List;
import java.util.Random;
import java.util.function.LongSupplier;

/** Long random runs of calls, the class beside the model; and that a refused call changes nothing. */
public final class ModelTest {
    private static final int RUNS = 600;
    private static final int CALLS = 512;
    private static final int[] WILD = {
        Integer.MIN_VALUE, Integer.MIN_VALUE + 1, -1000000011, -32769, -32768, -129, -128, -2, -1, 0, 1, 2, 7, 8, 9, 10, 40, 41,
        99, 100, 101, 127, 128, 400, 401, 500, 501, 9999, 10000, 65536, Integer.MAX_VALUE - 1, Integer.MAX_VALUE};
    private static final String[] TEXTS = {
        "r5;", "r100b0;", "r10b100;", "r50l1d400;", "r50l2;", "r0;", "r33b44l0d55;", "r100b100l2d400;", "r101;", "r5b101;",
        "r5l3;", "r5d0;", "r05;", "r5", "", "r5b;", "r1;r2;", "r77d3;r88l1;r99b1;", "r5d401;", "q", "r5;;", "r1000;"};

    /** A call of the face by number, with up to five arguments. */
    private record Call(int number, int[] a) {
        @Override
        public String toString() {
            return "call " + number + " " + Arrays.toString(a);
        }
    }

    public static void main(String[] args) {
        Random random = new Random(20261118);
        for (int run = 0; run < RUNS; run++) {
            besideTheModel(random, run);
        }
        for (int run = 0; run < RUNS; run++) {
            withoutTheRefused(random, run);
        }
        Due.end();
    }

    private static void besideTheModel(Random random, int run) {
        ChainLeap x = new ChainLeap();
        Model model = new Model();
        List<Call> waiting = new ArrayList<>();
        for (int n = 0; n < CALLS; n++) {
            if (waiting.isEmpty()) {
                waiting.addAll(some(random));
            }
            Call call = waiting.remove(0);
            Due.same("run " + run + " " + n + ": " + call, ofClass(x, call), ofModel(model, call));
        }
    }

    /** A run with refused calls, and one without them, stand alike behind it. */
    private static void withoutTheRefused(Random random, int run) {
        ChainLeap x = new ChainLeap();
        ChainLeap y = new ChainLeap();
        List<Call> waiting = new ArrayList<>();
        for (int n = 0; n < 250; n++) {
            if (waiting.isEmpty()) {
                waiting.addAll(some(random));
            }
            Call call = waiting.remove(0);
            long answer = ofClass(x, call);
            boolean mayBeBelow0 = call.number == 14 || call.number == 17 || call.number == 27;
            if (answer >= 0 || mayBeBelow0 && answer > -1000000 || call.number == 28) {
                Due.same("run " + run + " " + n + ": " + call, ofClass(y, call), answer);
            }
        }
        for (int what = 0; what < 6; what++) {
            Due.same("run " + run + " state " + what, x.state(what), y.state(what));
            Due.same("run " + run + " count " + what, x.count(what), y.count(what));
        }
        for (int i = 0; i < 32; i++) {
            Due.same("run " + run + " try " + i, x.tryOf(i / 4, i % 4), y.tryOf(i / 4, i % 4));
        }
        for (int d = 0; d < 8; d++) {
            Due.same("run " + run + " toss " + d, x.toss(d), y.toss(d));
            Due.same("run " + run + " waits " + d, x.waits(d), y.waits(d));
            for (int i = 0; i < 20; i++) {
                Call call = new Call(28, new int[] {d, i, 0, 0, 0});
                Due.same("run " + run + " element " + d + " " + i, ofClass(x, call), ofClass(y, call));
            }
        }
        Due.same("run " + run + " image", x.restore(), y.restore());
        Due.same("run " + run + " rod of the image", x.count(1), y.count(1));
    }

    private static int number(Random random, int most) {
        if (random.nextInt(25) == 0) {
            return WILD[random.nextInt(WILD.length)];
        }
        return random.nextInt(most + 1);
    }

    private static Call call(int number, int... given) {
        return new Call(number, Arrays.copyOf(given, 5));
    }

    /** A call or a few that belong together. */
    private static List<Call> some(Random random) {
        int d = random.nextInt(4) + random.nextInt(3) * random.nextInt(2);
        switch (random.nextInt(12)) {
            case 0:
                return textAndTries(random, d);
            case 1:
                return film(random, d);
            case 2:
            case 3:
                return List.of(call(24, d, 1, random.nextInt(8), random.nextInt(41)));
            case 4:
                return List.of(call(0, random.nextInt(5), random.nextInt(random.nextBoolean() ? 101 : 2000)));
            case 5:
                return List.of(call(0, 4, number(random, 400)), call(0, 2, number(random, 2)), call(0, 3, number(random, 9999)));
            default:
                return List.of(any(random));
        }
    }

    private static List<Call> textAndTries(Random random, int d) {
        StringBuilder text = new StringBuilder();
        for (int k = random.nextInt(4); k >= 0; k--) {
            text.append(TEXTS[random.nextInt(random.nextInt(3) == 0 ? TEXTS.length : 8)]);
        }
        if (random.nextInt(4) == 0 && text.length() > 0) {
            text.setCharAt(random.nextInt(text.length()), "rbld;0123456789x".charAt(random.nextInt(16)));
        }
        List<Call> calls = new ArrayList<>();
        calls.add(call(25, d, 0, text.length()));
        for (int i = 0; i < text.length(); i++) {
            calls.add(call(26, d, i, text.charAt(i) + 256 * random.nextInt(3)));
        }
        calls.add(call(1, d));
        if (random.nextInt(3) == 0) {
            calls.add(call(3));
        }
        return calls;
    }

    private static List<Call> film(Random random, int d) {
        List<Call> calls = new ArrayList<>();
        int size = random.nextInt(5);
        int sort = random.nextInt(3);
        calls.add(call(25, d, sort, size));
        for (int i = 0; i < size; i++) {
            int[] seen = {random.nextInt(120), random.nextInt(700), WILD[random.nextInt(WILD.length)]};
            calls.add(call(26, d, i, seen[random.nextInt(3)]));
        }
        for (int k = 0; k < 3; k++) {
            calls.add(call(11, d, random.nextInt(41), random.nextInt(60)));
            calls.add(call(12, d, random.nextInt(8), random.nextInt(60), random.nextInt(3)));
            calls.add(call(21, random.nextInt(4), d));
        }
        return calls;
    }

    private static Call any(Random random) {
        int number = random.nextInt(32);
        int d = number(random, 5);
        switch (number) {
            case 0:
                return call(number, number(random, 4), number(random, 100));
            case 2:
                return call(number, number(random, 7), number(random, 3));
            case 5:
                return call(number, d, number(random, random.nextBoolean() ? 20 : 500));
            case 10:
            case 30:
                return call(number, d, number(random, 5), number(random, 1));
            case 9:
            case 4:
            case 7:
            case 8:
            case 21:
            case 23:
                return call(number, d, number(random, 4));
            case 11:
                return call(number, d, number(random, 40), number(random, 100));
            case 12:
                return call(number, d, number(random, 7), number(random, 100), number(random, 2));
            case 14:
            case 18:
                return call(number, d, number(random, random.nextBoolean() ? 20 : 500));
            case 17:
                return call(number, d, number(random, 40), number(random, random.nextBoolean() ? 20 : 500));
            case 24:
                return call(number, d, number(random, 1), number(random, 7), number(random, 40));
            case 25:
                return call(number, d, number(random, 2), number(random, 19));
            case 26:
                return call(number, d, number(random, 19), WILD[random.nextInt(WILD.length)]);
            case 29:
                return call(number, d, number(random, 5), number(random, 5), number(random, 5), number(random, 5));
            default:
                return call(number, d, number(random, 100));
        }
    }

    private static long ofClass(ChainLeap x, Call call) {
        int[] a = call.a;
        switch (call.number) {
            case 0: return x.set(a[0], a[1]);
            case 1: return x.tries(a[0]);
            case 2: return x.tryOf(a[0], a[1]);
            case 3: return x.leave();
            case 4: return x.story(a[0], a[1]);
            case 5: return x.run(a[0], a[1]);
            case 6: return x.anew();
            case 7: return x.state(a[0]);
            case 8: return x.rests(a[0], a[1]);
            case 9: return x.ahead(a[0], a[1]);
            case 10: return x.parts(a[0], a[1], a[2]);
            case 11: return x.films(a[0], a[1], a[2]);
            case 12: return x.numbers(a[0], a[1], a[2], a[3]);
            case 13: return x.most(a[0]);
            case 14: return x.without(a[0], a[1]);
            case 15: return x.rested(a[0]);
            case 16: return x.when(a[0]);
            case 17: return x.floor(a[0], a[1], a[2]);
            case 18: return x.scale(a[0], a[1]);
            case 19: return x.slant(a[0], a[1]);
            case 20: return x.lays(a[0]);
            case 21: return x.judge(a[0], a[1]);
            case 22: return x.image();
            case 23: return x.count(a[1]);
            case 24: return x.keep(a[0], a[1], a[2], a[3]);
            case 25: return x.row(a[0], a[1], a[2]);
            case 26: return x.put(a[0], a[1], a[2]);
            case 27: return x.waits(a[0]);
            case 28: return elementOf(() -> x.element(a[0], a[1]));
            case 29: return x.copy(a[0], a[1], a[2], a[3], a[4]);
            case 30: return x.toss(a[0]);
            default: return x.restore();
        }
    }

    private static long ofModel(Model x, Call call) {
        int[] a = call.a;
        switch (call.number) {
            case 0: return x.set(a[0], a[1]);
            case 1: return x.tries(a[0]);
            case 2: return x.tryOf(a[0], a[1]);
            case 3: return x.leave();
            case 4: return x.story(a[0], a[1]);
            case 5: return x.run(a[0], a[1]);
            case 6: return x.anew();
            case 7: return x.state(a[0]);
            case 8: return x.rests(a[0], a[1]);
            case 9: return x.ahead(a[0], a[1]);
            case 10: return x.parts(a[0], a[1], a[2]);
            case 11: return x.films(a[0], a[1], a[2]);
            case 12: return x.numbers(a[0], a[1], a[2], a[3]);
            case 13: return x.most(a[0]);
            case 14: return x.without(a[0], a[1]);
            case 15: return x.rested(a[0]);
            case 16: return x.when(a[0]);
            case 17: return x.floor(a[0], a[1], a[2]);
            case 18: return x.scale(a[0], a[1]);
            case 19: return x.slant(a[0], a[1]);
            case 20: return x.lays(a[0]);
            case 21: return x.judge(a[0], a[1]);
            case 22: return x.image();
            case 23: return x.count(a[1]);
            case 24: return x.keep(a[0], a[1], a[2], a[3]);
            case 25: return x.row(a[0], a[1], a[2]);
            case 26: return x.put(a[0], a[1], a[2]);
            case 27: return x.waits(a[0]);
            case 28: return elementOf(() -> x.element(a[0], a[1]));
            case 29: return x.copy(a[0], a[1], a[2], a[3], a[4]);
            case 30: return x.toss(a[0]);
            default: return x.restore();
        }
    }

    private static long elementOf(LongSupplier element) {
        try {
            return element.getAsLong();
        } catch (IllegalArgumentException e) {
            return -10000000001L;
        } catch (IllegalStateException e) {
            return -10000000002L;
        }
    }
}
