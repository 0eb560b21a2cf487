/** Promises 27 to 33: keep, row, put, element, copy, waits, toss. */
public final class ShelfTest {
    public static void main(String[] args) {
        keepPutsStories();
        keepRefuses();
        rowsAreNew();
        rowRefuses();
        putKeepsTheLowestBits();
        putTakesThePlaceOfWhatWas();
        putRefuses();
        elementThrows();
        copyCopies();
        copyWithinOneRow();
        copyRefuses();
        waitsOfKinds();
        tossOfKinds();
        Due.end();
    }

    private static void keepPutsStories() {
        ChainLeap x = new ChainLeap();
        for (int d = 0; d < 8; d++) {
            Due.same("keep", x.keep(d, 1, d, 40), 0);
        }
        Due.same("shelf 2", x.waits(2), 88);
        Due.same("shelf 3", x.waits(3), -36);
        Due.same("none", x.keep(3, 0, -5, 99), 0);
        Due.same("shelf 3 is empty", x.waits(3), -1000000011);
        Due.same("none of nothing", x.keep(3, 0, 0, 0), 0);
        Due.same("a row", x.row(3, 0, 2), 0);
        Due.same("none of a row", x.keep(3, 0, 0, 0), 0);
        Due.same("shelf 3 is empty", x.put(3, 0, 0), -11);
        Due.same("a story for a row", x.row(3, 0, 2) + x.keep(3, 1, 1, 0), 0);
        Due.same("a story now", x.waits(3), 4);
        Due.same("no row now", x.put(3, 0, 0), -12);
    }

    private static void keepRefuses() {
        ChainLeap x = Due.withStory(1, 30);
        Due.same("no shelf", x.keep(-1, 1, 0, 0), -1);
        Due.same("no shelf", x.keep(8, 1, 0, 0), -1);
        Due.same("no shelf for nothing", x.keep(8, 0, 0, 0), -1);
        Due.same("no such what", x.keep(1, 2, 0, 0), -1);
        Due.same("no such what", x.keep(1, -1, 0, 0), -1);
        Due.same("no kind", x.keep(1, 1, 8, 0), -1);
        Due.same("no kind", x.keep(1, 1, -1, 0), -1);
        Due.same("no figure", x.keep(1, 1, 0, 41), -1);
        Due.same("no figure", x.keep(1, 1, 0, -1), -1);
        Due.same("the story stays", x.waits(1), 34);
    }

    private static void rowsAreNew() {
        ChainLeap x = new ChainLeap();
        Due.numbers(x, 0, 2, 7, 8, 9);
        Due.same("anew", x.row(0, 1, 100), 0);
        Due.same("all 0", x.element(0, 0) + x.element(0, 1) + x.element(0, 2) + x.element(0, 99), 0);
        Due.same("empty", x.row(0, 0, 0), 0);
        Due.same("no element", Due.thrownBy(x, 0, 0), 2);
        Due.same("empty", x.put(0, 0, 1), -13);
    }

    private static void rowRefuses() {
        ChainLeap x = Due.withStory(1, 30);
        Due.same("no shelf", x.row(-1, 0, 1), -1);
        Due.same("no shelf", x.row(8, 0, 1), -1);
        Due.same("no sort", x.row(1, 3, 1), -1);
        Due.same("no sort", x.row(1, -1, 1), -1);
        Due.same("too long", x.row(1, 0, 101), -1);
        Due.same("far too long", x.row(1, 0, Integer.MAX_VALUE), -1);
        Due.same("below 0", x.row(1, 0, -1), -14);
        Due.same("far below 0", x.row(1, 0, Integer.MIN_VALUE), -14);
        Due.same("-1 goes ahead", x.row(1, 3, -1), -1);
        Due.same("the story stays", x.waits(1), 34);
    }

    private static void putKeepsTheLowestBits() {
        ChainLeap x = new ChainLeap();
        int[] put = {127, 128, 255, 256, -129, 32767, 32768, 65535, -32769, Integer.MAX_VALUE, Integer.MIN_VALUE};
        for (int sort = 0; sort < 3; sort++) {
            Due.numbers(x, sort, sort, put);
        }
        for (int i = 0; i < put.length; i++) {
            Due.same("byte of " + put[i], x.element(0, i), (byte) put[i]);
            Due.same("short of " + put[i], x.element(1, i), (short) put[i]);
            Due.same("int of " + put[i], x.element(2, i), put[i]);
        }
    }

    private static void putTakesThePlaceOfWhatWas() {
        ChainLeap x = new ChainLeap();
        for (int sort = 0; sort < 3; sort++) {
            Due.numbers(x, sort, sort, 5, 6);
            Due.same("put again", x.put(sort, 1, -7), 0);
            holds(x, sort, 5, -7);
        }
    }

    private static void putRefuses() {
        ChainLeap x = Due.withStory(1, 30);
        x.row(2, 0, 3);
        Due.same("no shelf", x.put(-1, 0, 1), -1);
        Due.same("no shelf", x.put(8, 0, 1), -1);
        Due.same("nothing", x.put(0, 0, 1), -11);
        Due.same("a story", x.put(1, 0, 1), -12);
        Due.same("below", x.put(2, -1, 1), -13);
        Due.same("last", x.put(2, 2, 1), 0);
        Due.same("beyond", x.put(2, 3, 1), -13);
        Due.same("far beyond", x.put(2, Integer.MAX_VALUE, 1), -13);
        Due.same("beyond, nothing", x.put(0, 3, 1), -11);
    }

    private static void elementThrows() {
        ChainLeap x = Due.withStory(1, 30);
        x.row(2, 0, 3);
        Due.same("no shelf", Due.thrownBy(x, -1, 0), 1);
        Due.same("no shelf", Due.thrownBy(x, 8, 0), 1);
        Due.same("no shelf, no place", Due.thrownBy(x, 8, -1), 1);
        Due.same("nothing", Due.thrownBy(x, 0, 0), 2);
        Due.same("a story", Due.thrownBy(x, 1, 0), 2);
        Due.same("below", Due.thrownBy(x, 2, -1), 2);
        Due.same("first", Due.thrownBy(x, 2, 0), 0);
        Due.same("last", Due.thrownBy(x, 2, 2), 0);
        Due.same("beyond", Due.thrownBy(x, 2, 3), 2);
    }

    private static void holds(ChainLeap x, int d, int... due) {
        for (int i = 0; i < due.length; i++) {
            Due.same("shelf " + d + " element " + i, x.element(d, i), due[i]);
        }
    }

    private static void copyCopies() {
        ChainLeap x = new ChainLeap();
        Due.numbers(x, 0, 1, 1, 2, 3, 4, 5);
        Due.numbers(x, 1, 1, 11, 12, 13);
        Due.same("copy", x.copy(0, 3, 1, 1, 2), 2);
        holds(x, 1, 11, 4, 5);
        holds(x, 0, 1, 2, 3, 4, 5);
        Due.same("all of it", x.copy(1, 0, 0, 2, 3), 3);
        holds(x, 0, 1, 2, 11, 4, 5);
        Due.same("none at both ends", x.copy(0, 5, 1, 3, 0), 0);
        Due.same("none", x.copy(0, 0, 1, 0, 0), 0);
        holds(x, 1, 11, 4, 5);
    }

    private static void copyWithinOneRow() {
        ChainLeap x = new ChainLeap();
        Due.numbers(x, 0, 2, 1, 2, 3, 4, 5);
        Due.same("behind", x.copy(0, 0, 0, 1, 4), 4);
        holds(x, 0, 1, 1, 2, 3, 4);
        Due.same("ahead", x.copy(0, 1, 0, 0, 4), 4);
        holds(x, 0, 1, 2, 3, 4, 4);
    }

    private static void copyRefuses() {
        ChainLeap x = Due.withStory(1, 30);
        Due.numbers(x, 2, 0, 1, 2, 3);
        Due.numbers(x, 3, 0, 4, 5, 6);
        Due.numbers(x, 4, 1, 7, 8, 9);
        Due.same("no shelf", x.copy(-1, 0, 2, 0, 1), -1);
        Due.same("no shelf", x.copy(2, 0, 8, 0, 1), -1);
        Due.same("-1 goes ahead", x.copy(0, 0, 8, 0, 1), -1);
        Due.same("nothing", x.copy(0, 0, 2, 0, 1), -11);
        Due.same("nothing", x.copy(2, 0, 0, 0, 1), -11);
        Due.same("-11 goes ahead", x.copy(1, 0, 0, 0, 1), -11);
        Due.same("-11 goes ahead", x.copy(0, 0, 1, 0, 1), -11);
        Due.same("a story", x.copy(1, 0, 2, 0, 1), -12);
        Due.same("a story", x.copy(2, 0, 1, 0, 1), -12);
        Due.same("two sorts", x.copy(2, 0, 4, 0, 1), -12);
        Due.same("-12 goes ahead", x.copy(2, 0, 4, 0, -1), -12);
        int[][] stretches = {
            {0, 0, -1}, {0, 0, 4}, {1, 0, 3}, {0, 1, 3}, {-1, 0, 1}, {0, -1, 1}, {3, 0, 1}, {0, 3, 1}, {4, 0, 0}, {0, 4, 0},
            {-1, 0, 0}, {0, -1, 0}, {Integer.MAX_VALUE, 0, 1}, {0, Integer.MAX_VALUE, 1}, {1, 1, Integer.MAX_VALUE},
            {Integer.MIN_VALUE, 0, 1}, {0, 0, Integer.MIN_VALUE}};
        for (int[] s : stretches) {
            Due.same("stretch " + s[0] + " " + s[1] + " " + s[2], x.copy(2, s[0], 3, s[1], s[2]), -13);
        }
        holds(x, 3, 4, 5, 6);
    }

    private static void waitsOfKinds() {
        int[] of0 = {4, 4, 8, 4, 13, 0, 2, 5};
        int[] of9 = {4, 13, 26, -5, 22, 36, 6, -4};
        int[] of40 = {4, 44, 88, -36, 53, 160, 22, -35};
        for (int kind = 0; kind < 8; kind++) {
            Due.same("wait of " + kind, Due.withStory(kind, 0).waits(1), of0[kind]);
            Due.same("wait of " + kind, Due.withStory(kind, 9).waits(1), of9[kind]);
            Due.same("wait of " + kind, Due.withStory(kind, 40).waits(1), of40[kind]);
        }
        ChainLeap x = Due.withStory(0, 0);
        x.row(2, 0, 1);
        Due.same("no shelf", x.waits(-1), -1000000001);
        Due.same("no shelf", x.waits(8), -1000000001);
        Due.same("nothing", x.waits(0), -1000000011);
        Due.same("a row", x.waits(2), -1000000012);
    }

    private static void tossOfKinds() {
        int[] of1 = {1, 1, 101, 1, 1, -15, 1, 204};
        int[] of40 = {40, 40, 140, 40, 40, -15, 40, 165};
        for (int kind = 0; kind < 8; kind++) {
            Due.same("toss of " + kind, Due.withStory(kind, 0).toss(1), -15);
            Due.same("toss of " + kind, Due.withStory(kind, 1).toss(1), of1[kind]);
            Due.same("toss of " + kind, Due.withStory(kind, 40).toss(1), of40[kind]);
        }
        ChainLeap x = Due.withStory(0, 0);
        x.row(2, 0, 1);
        Due.same("no shelf", x.toss(-1), -1);
        Due.same("no shelf", x.toss(8), -1);
        Due.same("nothing", x.toss(0), -11);
        Due.same("a row", x.toss(2), -12);
    }
}
