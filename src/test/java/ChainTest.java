/** Promises 1 to 5: a new object, set, tries, tryOf, leave. */
public final class ChainTest {
    public static void main(String[] args) {
        aNewObject();
        setAnswersWhatItWas();
        setRefuses();
        setLengthBesideOut();
        triesAreRead();
        triesTakeWhatLacksFromTheChain();
        textsBreakAtTheFirstByteThatCannotBe();
        statementsThatAreNotAsTold();
        triesHaveRoomForEight();
        triesRefuse();
        tryOfRefuses();
        leaveTakesTheLatest();
        Due.end();
    }

    private static void aNewObject() {
        ChainLeap x = new ChainLeap();
        int[] counts = {0, 50, 20, 0, 1000, 100, -1};
        for (int what = 0; what < counts.length; what++) {
            Due.same("new count " + what, x.count(what), counts[what]);
        }
        for (int what = 0; what < 6; what++) {
            Due.same("new state " + what, x.state(what), 0);
        }
        for (int d = 0; d < 8; d++) {
            Due.same("new shelf " + d, x.waits(d), -1000000011);
        }
        Due.same("new tryOf", x.tryOf(0, 0), -1);
        Due.same("new leave", x.leave(), -3);
        Due.same("new restore", x.restore(), -3);
        Due.same("new anew", x.anew(), 0);
    }

    private static void setAnswersWhatItWas() {
        int[] first = {50, 20, 0, 1000, 100};
        int[] least = {0, 0, 0, 10, 1};
        int[] most = {100, 100, 2, 9999, 400};
        ChainLeap x = new ChainLeap();
        for (int what = 0; what < 5; what++) {
            Due.same("set least " + what, x.set(what, least[what]), first[what]);
            Due.same("count least " + what, x.count(what + 1), least[what]);
            Due.same("set most " + what, x.set(what, most[what]), least[what]);
            Due.same("count most " + what, x.count(what + 1), most[what]);
        }
        Due.same("set anyhow in rows", x.set(2, 1), 2);
        Due.same("count in rows", x.count(3), 1);
    }

    private static void setRefuses() {
        int[] below = {-1, -1, -1, 9, 0};
        int[] above = {101, 101, 3, 10000, 401};
        int[] first = {50, 20, 0, 1000, 100};
        ChainLeap x = new ChainLeap();
        for (int what = 0; what < 5; what++) {
            Due.same("set below " + what, x.set(what, below[what]), -1);
            Due.same("set above " + what, x.set(what, above[what]), -1);
            Due.same("set far below " + what, x.set(what, Integer.MIN_VALUE), -1);
            Due.same("set far above " + what, x.set(what, Integer.MAX_VALUE), -1);
            Due.same("count refused " + what, x.count(what + 1), first[what]);
        }
        Due.same("set -1", x.set(-1, 1), -1);
        Due.same("set 5", x.set(5, 1), -1);
    }

    private static void setLengthBesideOut() {
        ChainLeap x = Due.withStory(0, 0);
        x.run(1, 10);
        int out = x.state(3);
        Due.same("out is above the least length", out > 10 ? 1 : 0, 1);
        Due.same("set length to out", x.set(3, out), -3);
        Due.same("set length below out", x.set(3, out - 1), -3);
        Due.same("out of range goes ahead", x.set(3, 9), -1);
        Due.same("set length above out", x.set(3, out + 1), 1000);
        Due.same("not done yet", x.state(5), 0);
        Due.same("run", x.run(1, 1), 11);
        Due.same("done", x.state(5), 1);
        Due.same("out is length", x.state(3), out + 1);
        Due.same("other things may be set", x.set(4, 1), 100);
    }

    private static void looksLike(ChainLeap x, int i, int rod, int bend, int laid, int drop) {
        Due.same("rod of " + i, x.tryOf(i, 0), rod);
        Due.same("bend of " + i, x.tryOf(i, 1), bend);
        Due.same("laid of " + i, x.tryOf(i, 2), laid);
        Due.same("drop of " + i, x.tryOf(i, 3), drop);
    }

    private static void triesAreRead() {
        ChainLeap x = new ChainLeap();
        Due.same("one", Due.read(x, "r0;"), 1);
        Due.same("all parts", Due.read(x, "r100b100l2d400;r7b0l0d1;"), 2);
        Due.same("some parts", Due.read(x, "r1d9;r12b34d56;r9l1;"), 3);
        Due.same("count", x.count(0), 6);
        looksLike(x, 0, 0, 20, 0, 100);
        looksLike(x, 1, 100, 100, 2, 400);
        looksLike(x, 2, 7, 0, 0, 1);
        looksLike(x, 3, 1, 20, 0, 9);
        looksLike(x, 4, 12, 34, 0, 56);
        looksLike(x, 5, 9, 20, 1, 100);
        Due.same("the text stays", x.element(0, 0), 'r');
        Due.same("the text stays so long", Due.thrownBy(x, 0, 17), 0);
    }

    private static void triesTakeWhatLacksFromTheChain() {
        ChainLeap x = new ChainLeap();
        x.set(0, 77);
        x.set(1, 88);
        x.set(2, 2);
        x.set(4, 333);
        Due.same("read", Due.read(x, "r1b2l1d3;r4;"), 2);
        looksLike(x, 0, 1, 2, 1, 3);
        looksLike(x, 1, 4, 88, 2, 333);
        x.set(1, 5);
        looksLike(x, 1, 4, 88, 2, 333);
        Due.same("the chain stays", x.count(1), 77);
    }

    private static void textsBreakAtTheFirstByteThatCannotBe() {
        String[] texts = {
            "", "r", "r5", "r5b", "r5b1", "r5l", "r5l1", "r5d", "r5d1", "r5;r",
            "R5;", "r;", "rb", "r-1;", "r05;", "r00;", "r1000;", "r5b00;", "r5b1234;", "r5l12;",
            "r5l;", "r5d01;", "r5d1000;", "r5l1b2;", "r5d1l1;", "r5b1b1;", "r5d1b1;", "r5;;", "r5; r5;", "r5;x",
            "r5l05;", "r5 ;", "r5l1l1;", "r5d1d1;", "b5;", "r5;b5;", "r101;r;", "r5/", "r5:"};
        int[] places = {
            0, 1, 2, 3, 4, 3, 4, 3, 4, 4,
            0, 1, 1, 1, 2, 2, 4, 4, 6, 4,
            3, 4, 6, 4, 4, 4, 4, 3, 3, 3,
            4, 2, 4, 4, 0, 3, 6, 2, 2};
        for (int i = 0; i < texts.length; i++) {
            ChainLeap x = new ChainLeap();
            Due.same("text " + texts[i], Due.read(x, texts[i]), -1000 - places[i]);
            Due.same("nothing comes of " + texts[i], x.count(0), 0);
        }
        ChainLeap x = new ChainLeap();
        Due.numbers(x, 0, 0, 'r' + 256, '5' - 256, ';' + 512);
        Due.same("lowest bits are read", x.tries(0), 1);
        Due.numbers(x, 0, 0, 'r', '5', 255);
        Due.same("a byte below 0", x.tries(0), -1002);
    }

    private static void statementsThatAreNotAsTold() {
        String[] texts = {
            "r101;", "r999;", "r5b101;", "r5l3;", "r5l9;", "r5d0;", "r5d401;", "r5;r101;", "r5;r6d0;r101;", "r101;r5l3;",
            "r100b100l2d400;r0b0l0d1;r5b999;"};
        int[] places = {0, 0, 0, 0, 0, 0, 0, 3, 3, 0, 24};
        for (int i = 0; i < texts.length; i++) {
            ChainLeap x = new ChainLeap();
            Due.same("text " + texts[i], Due.read(x, texts[i]), -2000 - places[i]);
            Due.same("nothing comes of " + texts[i], x.count(0), 0);
        }
        ChainLeap x = new ChainLeap();
        Due.same("kind 1 goes ahead", Due.read(x, "r101;r5;r5"), -1010);
    }

    private static void triesHaveRoomForEight() {
        ChainLeap x = new ChainLeap();
        Due.same("eight", Due.read(x, "r1;r2;r3;r4;r5;r6;r7;r8;"), 8);
        Due.same("a ninth", Due.read(x, "r9;"), -2000);
        Due.same("kind 1 still goes ahead", Due.read(x, "r9"), -1002);
        Due.same("one left", x.leave(), 7);
        Due.same("two for one place", Due.read(x, "r10;r11;"), -2004);
        Due.same("none came", x.count(0), 7);
        Due.same("the seventh is the latest", x.tryOf(7, 0), -1);
        Due.same("one for one place", Due.read(x, "r10;"), 1);
        Due.same("the eighth", x.tryOf(7, 0), 10);
        ChainLeap y = new ChainLeap();
        Due.same("a number is told ahead of room", Due.read(y, "r1;r2;r3;r101;r5;r6;r7;r8;r9;"), -2009);
        StringBuilder longest = new StringBuilder();
        for (int i = 0; i < 33; i++) {
            longest.append("r5;");
        }
        Due.same("the longest", Due.read(y, longest + "r"), -1100);
        Due.same("one byte less", Due.read(y, longest.toString()), -2024);
        Due.same("nothing came", y.count(0), 0);
    }

    private static void triesRefuse() {
        ChainLeap x = Due.withStory(0, 0);
        Due.same("no shelf", x.tries(-1), -1);
        Due.same("no shelf", x.tries(8), -1);
        Due.same("nothing", x.tries(0), -11);
        Due.same("a story", x.tries(1), -12);
        Due.numbers(x, 2, 1, 'r', '5', ';');
        Due.same("shorts", x.tries(2), -12);
        Due.numbers(x, 2, 2, 'r', '5', ';');
        Due.same("ints", x.tries(2), -12);
        Due.same("nothing came", x.count(0), 0);
    }

    private static void tryOfRefuses() {
        ChainLeap x = new ChainLeap();
        Due.read(x, "r5;r6;");
        Due.same("below", x.tryOf(-1, 0), -1);
        Due.same("last", x.tryOf(1, 0), 6);
        Due.same("beyond", x.tryOf(2, 0), -1);
        Due.same("far beyond", x.tryOf(Integer.MAX_VALUE, 0), -1);
        Due.same("what below", x.tryOf(0, -1), -1);
        Due.same("what beyond", x.tryOf(0, 4), -1);
    }

    private static void leaveTakesTheLatest() {
        ChainLeap x = new ChainLeap();
        Due.read(x, "r5;r6;");
        Due.same("leave", x.leave(), 1);
        Due.same("the first stays", x.tryOf(0, 0), 5);
        Due.same("the latest went", x.tryOf(1, 0), -1);
        Due.same("another comes", Due.read(x, "r8;"), 1);
        Due.same("behind the first", x.tryOf(1, 0), 8);
        Due.same("leave", x.leave(), 1);
        Due.same("leave", x.leave(), 0);
        Due.same("none", x.leave(), -3);
    }
}
