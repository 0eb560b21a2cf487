import java.lang.reflect.InvocationTargetException;
import java.lang.reflect.Method;
import java.util.Arrays;

/** Counts answers that are not the ones that are due, and ends a test's run. */
final class Due {
    private static int looked = 0;
    private static int wrong = 0;

    private Due() {
    }

    static void same(String call, long got, long want) {
        looked++;
        if (got != want) {
            wrong++;
            System.out.println(call + " answered " + got + ", due is " + want);
        }
    }

    /** Puts a text into a SHELF as a ROW of bytes. */
    static void text(ChainLeap x, int d, String text) {
        numbers(x, d, 0, text.chars().toArray());
    }

    /** Puts numbers into a SHELF as a ROW of a SORT. */
    static void numbers(ChainLeap x, int d, int sort, int... numbers) {
        same("row", x.row(d, sort, numbers.length), 0);
        for (int i = 0; i < numbers.length; i++) {
            same("put", x.put(d, i, numbers[i]), 0);
        }
    }

    /** What tries answers to a text in SHELF 0. */
    static int read(ChainLeap x, String text) {
        text(x, 0, text);
        return x.tries(0);
    }

    static ChainLeap withStory(int kind, int figure) {
        ChainLeap x = new ChainLeap();
        same("keep", x.keep(1, 1, kind, figure), 0);
        return x;
    }

    /** 0 if element answers, 1 for an IllegalArgumentException, 2 for an IllegalStateException. */
    static int thrownBy(ChainLeap x, int d, int i) {
        try {
            x.element(d, i);
            return 0;
        } catch (IllegalArgumentException e) {
            return 1;
        } catch (IllegalStateException e) {
            return 2;
        }
    }

    /** What a call answers that is told as a text: its name, its arguments between commas. */
    static String answer(ChainLeap x, String name, String given) {
        Object[] arguments = given.isEmpty() ? new Object[0] : Arrays.stream(given.split(", ")).map(Integer::valueOf).toArray();
        Class<?>[] types = new Class<?>[arguments.length];
        Arrays.fill(types, int.class);
        try {
            Method method = ChainLeap.class.getMethod(name, types);
            return method.invoke(x, arguments).toString();
        } catch (InvocationTargetException e) {
            return "throws." + e.getCause().getClass().getSimpleName();
        } catch (NoSuchMethodException | IllegalAccessException e) {
            return "no such call";
        }
    }

    static void end() {
        System.out.println(looked + " answers looked at, " + wrong + " wrong");
        if (wrong != 0) {
            System.exit(1);
        }
    }
}
