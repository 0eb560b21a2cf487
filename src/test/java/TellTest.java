/** Promises 11 to 23: what stories tell. */
public final class TellTest {
    public static void main(String[] args) {
        aheadOfTries();
        partsOfStories();
        filmsOfStories();
        filmsSkipTheLeastNumberOfTheSort();
        filmsRefuse();
        numbersOfKinds();
        mostOfChains();
        laysOfChains();
        withoutAKick();
        restedAtATick();
        whenItIsDone();
        floorsThatDraw();
        scalesBeneath();
        slantsOfJars();
        judgedFilms();
        inMindAlone();
        Due.end();
    }

    /** A STORY of KIND 1 with FIGURE 40 in SHELF 1, a ROW in SHELF 2, nothing in SHELF 0. */
    private static ChainLeap kicked() {
        ChainLeap x = Due.withStory(1, 40);
        Due.same("row", x.row(2, 1, 1), 0);
        return x;
    }

    private static void aheadOfTries() {
        ChainLeap x = kicked();
        Due.same("no tries", x.ahead(1, 0), -1);
        Due.text(x, 3, "r100d400;r100b50l1d100;r49d299;");
        Due.same("read", x.tries(3), 3);
        Due.same("40 by 60 of 400", x.ahead(1, 0), 266);
        Due.same("40 by 60 of 100", x.ahead(1, 1), 66);
        Due.same("19 by 81 of 299", x.ahead(1, 2), 70);
        x.keep(1, 1, 2, 40);
        Due.same("20 by 80 of 100", x.ahead(1, 1), 25);
        x.keep(1, 1, 3, 39);
        Due.same("19 by 81 of 400", x.ahead(1, 0), 93);
        Due.same("39 by 61 of 100", x.ahead(1, 1), 63);
        x.keep(1, 1, 4, 40);
        Due.same("40 by 20 of 400", x.ahead(1, 0), 800);
        x.keep(1, 1, 6, 40);
        Due.same("20 by 90 of 400", x.ahead(1, 0), 88);
        Due.same("below", x.ahead(1, -1), -1);
        Due.same("beyond", x.ahead(1, 3), -1);
        Due.same("no shelf", x.ahead(-1, 0), -1);
        Due.same("no shelf", x.ahead(8, 0), -1);
        Due.same("-1 goes ahead", x.ahead(0, 3), -1);
        Due.same("nothing", x.ahead(0, 0), -11);
        Due.same("a row", x.ahead(2, 0), -12);
    }

    private static void partsOfStories() {
        ChainLeap x = kicked();
        x.keep(3, 1, 2, 40);
        Due.same("no tries", x.parts(1, 3, 0), -4);
        Due.same("no tries", x.parts(1, 3, 1), -4);
        Due.text(x, 4, "r0b100d400;r100b0d400;r100b50d100;r100b50d100;r50b50d100;");
        Due.same("read", x.tries(4), 5);
        // 66 less 25 at TRY 2 and at TRY 3.
        Due.same("which", x.parts(1, 3, 0), 2);
        Due.same("how unlike", x.parts(1, 3, 1), 41);
        Due.same("which, turned", x.parts(3, 1, 0), 2);
        Due.same("how unlike, turned", x.parts(3, 1, 1), 41);
        Due.same("one and the same", x.parts(1, 1, 0), 0);
        Due.same("one and the same", x.parts(1, 1, 1), 0);
        Due.same("no shelf", x.parts(-1, 1, 0), -1);
        Due.same("no shelf", x.parts(1, 8, 0), -1);
        Due.same("no such what", x.parts(1, 3, 2), -1);
        Due.same("no such what", x.parts(1, 3, -1), -1);
        Due.same("-1 goes ahead", x.parts(0, 8, 0), -1);
        Due.same("nothing", x.parts(1, 0, 0), -11);
        Due.same("nothing", x.parts(0, 1, 0), -11);
        Due.same("-11 goes ahead", x.parts(2, 0, 0), -11);
        Due.same("-11 goes ahead", x.parts(0, 2, 0), -11);
        Due.same("a row", x.parts(1, 2, 0), -12);
        Due.same("a row", x.parts(2, 1, 0), -12);
    }

    private static void filmsOfStories() {
        ChainLeap x = new ChainLeap();
        Due.text(x, 0, "r100b50l1d100;");
        Due.same("read", x.tries(0), 1);
        // By KINDS with FIGURE 40: 0, 66, 25, 66, 200, 0, 22 (20 by 90), 0.
        int[][] seen = {
            {66, 0, 0b1010}, {0, 0, 0b10100001}, {25, 0, 0b100}, {200, 0, 0b10000}, {22, 0, 0b1000000}, {23, 1, 0b1000000},
            {23, 2, 0b1000100}, {67, 0, 0}, {65, 1, 0b1010}, {100, 99, 0b1001110}, {100, 100, 0b11111111}, {0, 9999, 0b11111111},
            {-1, 0, 0}, {-1, 1, 0b10100001}, {Integer.MAX_VALUE, 9999, 0}, {Integer.MIN_VALUE + 1, 9999, 0}};
        for (int[] s : seen) {
            Due.numbers(x, 1, 2, s[0]);
            Due.same("films of " + s[0] + " off " + s[1], x.films(1, 40, s[1]), s[2]);
        }
        Due.numbers(x, 1, 2, 0);
        Due.same("figure 0", x.films(1, 0, 0), 255);
    }

    private static void filmsSkipTheLeastNumberOfTheSort() {
        ChainLeap x = new ChainLeap();
        Due.text(x, 0, "r100b50l1d100;r100b50l1d100;");
        Due.same("read", x.tries(0), 2);
        int[] least = {-128, -32768, Integer.MIN_VALUE};
        for (int sort = 0; sort < 3; sort++) {
            Due.numbers(x, 1, sort, least[sort], 66);
            Due.same("the first is skipped", x.films(1, 40, 0), 0b1010);
            Due.numbers(x, 1, sort, 25, least[sort]);
            Due.same("the second is skipped", x.films(1, 40, 0), 0b100);
            Due.numbers(x, 1, sort, least[sort], least[sort]);
            Due.same("both are skipped", x.films(1, 40, 0), 255);
            Due.numbers(x, 1, sort, least[sort] + 1, 66);
            Due.same("one more is not skipped", x.films(1, 40, 0), 0);
            Due.numbers(x, 1, sort, 25, 66);
            Due.same("each must be so", x.films(1, 40, 0), 0);
        }
        Due.numbers(x, 1, 1, -128, 66);
        Due.same("another sort's least number", x.films(1, 40, 0), 0);
    }

    private static void filmsRefuse() {
        ChainLeap x = kicked();
        Due.same("no shelf", x.films(-1, 0, 0), -1);
        Due.same("no shelf", x.films(8, 0, 0), -1);
        Due.same("no figure", x.films(2, -1, 0), -1);
        Due.same("no figure", x.films(2, 41, 0), -1);
        Due.same("no off", x.films(2, 0, -1), -1);
        Due.same("no off", x.films(2, 0, 10000), -1);
        Due.same("-1 goes ahead", x.films(0, 41, 0), -1);
        Due.same("nothing", x.films(0, 0, 0), -11);
        Due.same("a story", x.films(1, 0, 0), -12);
        Due.same("more than tries", x.films(2, 0, 0), -13);
        x.row(2, 1, 0);
        Due.same("of none each tells so", x.films(2, 40, 0), 255);
        Due.text(x, 3, "r1;");
        x.tries(3);
        Due.same("less than tries", x.films(2, 0, 0), -13);
    }

    private static void numbersOfKinds() {
        ChainLeap x = kicked();
        x.row(2, 1, 0);
        Due.same("no tries, least", x.numbers(2, 3, 0, 0), 0);
        Due.same("no tries, greatest", x.numbers(2, 3, 0, 1), 40);
        Due.same("no tries, many", x.numbers(2, 3, 0, 2), 41);
        Due.text(x, 3, "r100b50l1d100;");
        Due.same("read", x.tries(3), 1);
        Due.numbers(x, 2, 1, 66);
        Due.same("least", x.numbers(2, 1, 0, 0), 40);
        // FIGURE 39 tells 63, 38 tells 61.
        Due.same("least", x.numbers(2, 1, 4, 0), 39);
        Due.same("greatest", x.numbers(2, 1, 4, 1), 40);
        Due.same("many", x.numbers(2, 1, 4, 2), 2);
        Due.same("none, least", x.numbers(2, 2, 0, 0), -4);
        Due.same("none, greatest", x.numbers(2, 2, 0, 1), -4);
        Due.same("none, many", x.numbers(2, 2, 0, 2), 0);
        Due.numbers(x, 2, 1, 0);
        Due.same("greatest of a kick of 0", x.numbers(2, 2, 0, 1), 1);
        Due.same("least", x.numbers(2, 7, 0, 0), 0);
        Due.same("all of a kind without kick", x.numbers(2, 7, 0, 2), 41);
        Due.same("no shelf", x.numbers(-1, 0, 0, 0), -1);
        Due.same("no shelf", x.numbers(8, 0, 0, 0), -1);
        Due.same("no kind", x.numbers(2, -1, 0, 0), -1);
        Due.same("no kind", x.numbers(2, 8, 0, 0), -1);
        Due.same("no off", x.numbers(2, 0, -1, 0), -1);
        Due.same("no off", x.numbers(2, 0, 10000, 0), -1);
        Due.same("the greatest off", x.numbers(2, 0, 9999, 2), 41);
        Due.same("no such what", x.numbers(2, 0, 0, 3), -1);
        Due.same("no such what", x.numbers(2, 0, 0, -1), -1);
        Due.same("-1 goes ahead", x.numbers(0, 8, 0, 0), -1);
        Due.same("nothing", x.numbers(0, 0, 0, 0), -11);
        Due.same("a story", x.numbers(1, 0, 0, 0), -12);
        x.row(2, 1, 2);
        Due.same("more than tries", x.numbers(2, 0, 0, 0), -13);
        x.row(2, 1, 0);
        Due.same("less than tries", x.numbers(2, 0, 0, 0), -13);
    }

    private static void mostOfChains() {
        int[] due = {0, 100000, 100000, 0, 100000, 0, 100000, 0};
        for (int kind = 0; kind < 8; kind++) {
            Due.same("most of " + kind, Due.withStory(kind, 40).most(1), due[kind]);
        }
        ChainLeap x = kicked();
        Due.same("a figure of 0", Due.withStory(1, 0).most(1), 0);
        x.set(4, 1);
        Due.same("a drop of 1 shows none", x.most(1), 0);
        // KICK 34 is the least that shows 1 of 2; a rod of 90 is the first that gives it, and 40 shows no more.
        x.set(4, 2);
        Due.same("a drop of 2", x.most(1), 90000);
        x.set(4, 3);
        // DRAWN with FIGURE 40, DROP 3: 40 by 20 tells 6; 36 by 24 tells 4.
        x.keep(1, 1, 4, 40);
        Due.same("a drop of 3", x.most(1), 100000);
        // BENT with FIGURE 1: only a rod of 100 that doesn't bend kicks at all, and 1 by 99 of 100 is 1.
        x.keep(1, 1, 2, 1);
        x.set(4, 100);
        Due.same("bent by 1", x.most(1), 100000);
        Due.same("the chain stays", x.count(1) * 1000 + x.count(2), 50020);
        Due.same("no shelf", x.most(-1), -1);
        Due.same("no shelf", x.most(8), -1);
        Due.same("nothing", x.most(0), -11);
        Due.same("a row", x.most(2), -12);
    }

    private static void laysOfChains() {
        int[] due = {0, 0, 0, 1, 0, 0, 0, 0};
        for (int kind = 0; kind < 8; kind++) {
            ChainLeap x = Due.withStory(kind, 40);
            x.set(2, 2);
            Due.same("lays of " + kind, x.lays(1), due[kind]);
            Due.same("the chain stays", x.count(3), 2);
        }
        ChainLeap x = kicked();
        x.keep(1, 1, 3, 1);
        Due.same("thrown by 1", x.lays(1), 1);
        x.set(4, 90);
        Due.same("thrown by 1, shown nowhere", x.lays(1), 0);
        Due.same("no shelf", x.lays(-1), -1);
        Due.same("no shelf", x.lays(8), -1);
        Due.same("nothing", x.lays(0), -11);
        Due.same("a row", x.lays(2), -12);
    }

    /** PACE behind n TICKS of a run of its own. */
    private static int paceOf(int kind, int figure, int length, int drop, int n) {
        ChainLeap x = Due.withStory(kind, figure);
        x.set(0, 100);
        x.set(3, length);
        x.set(4, drop);
        x.run(1, n);
        return x.state(1);
    }

    private static void withoutAKick() {
        ChainLeap x = kicked();
        x.set(0, 100);
        x.set(4, 400);
        int[] ticks = {1, 2, 3, 7, 10, 20, 500};
        for (int length : new int[] {10, 60, 1000, 9999}) {
            x.set(3, length);
            for (int n : ticks) {
                x.keep(1, 1, 1, 40);
                Due.same("without " + n, x.without(1, n), paceOf(1, 40, length, 400, n) - paceOf(0, 0, length, 400, n));
                x.keep(1, 1, 5, 40);
                Due.same("held " + n, x.without(1, n), paceOf(5, 40, length, 400, n) - paceOf(0, 0, length, 400, n));
                x.keep(1, 1, 0, 40);
                Due.same("itself " + n, x.without(1, n), 0);
            }
        }
        x.keep(1, 1, 5, 40);
        // PULL 400 and 560 behind a PACE of 200: 380 and 372.
        Due.same("an answer below 0", x.without(1, 2), -8);
        Due.same("no shelf", x.without(-1, 1), -1000000001);
        Due.same("no shelf", x.without(8, 1), -1000000001);
        Due.same("no ticks", x.without(1, 0), -1000000001);
        Due.same("too many", x.without(1, 501), -1000000001);
        Due.same("-1 goes ahead", x.without(0, 0), -1000000001);
        Due.same("nothing", x.without(0, 1), -1000000011);
        Due.same("a row", x.without(2, 1), -1000000012);
    }

    private static void restedAtATick() {
        ChainLeap x = kicked();
        x.set(4, 1);
        Due.same("a pace that never begins", x.rested(1), 1);
        x.set(4, 400);
        x.set(0, 100);
        for (int length : new int[] {10, 59, 500, 1000, 9999}) {
            x.set(3, length);
            Due.same("rested of " + length, x.rested(1), restedOf(length));
        }
        // 2 ticks of OUT 20 and 38 to be DONE at 58: ARCH 180 falls by 50 in 4 more ticks.
        x.set(3, 58);
        Due.same("done, then sunk", x.rested(1), 6);
        Due.same("no shelf", x.rested(-1), -1);
        Due.same("no shelf", x.rested(8), -1);
        Due.same("nothing", x.rested(0), -11);
        Due.same("a row", x.rested(2), -12);
    }

    private static int restedOf(int length) {
        ChainLeap x = Due.withStory(1, 40);
        x.set(0, 100);
        x.set(4, 400);
        x.set(3, length);
        x.run(1, 1);
        for (int k = 1; k <= 200; k++) {
            int pace = x.state(1);
            int arch = x.state(2);
            x.run(1, 1);
            if (pace == x.state(1) && arch == x.state(2)) {
                return k;
            }
        }
        return -4;
    }

    private static void whenItIsDone() {
        ChainLeap x = Due.withStory(0, 0);
        x.row(2, 0, 1);
        // PACE 50, 98 behind one and two TICKS.
        x.set(3, 10);
        Due.same("ten", x.when(1), 2);
        x.set(3, 14);
        Due.same("fourteen", x.when(1), 2);
        x.set(3, 15);
        Due.same("fifteen", x.when(1), 3);
        x.set(4, 200);
        x.set(3, 10);
        Due.same("at once", x.when(1), 1);
        x.set(4, 1);
        Due.same("never", x.when(1), -4);
        // With a DROP of 2 the PACE grows by 1 while PULL stays 0: to 10, then 1 bead a TICK.
        x.set(4, 2);
        x.set(3, 1991);
        Due.same("the last tick", x.when(1), 2000);
        x.set(3, 1992);
        Due.same("one too late", x.when(1), -4);
        Due.same("no shelf", x.when(-1), -1);
        Due.same("no shelf", x.when(8), -1);
        Due.same("nothing", x.when(0), -11);
        Due.same("a row", x.when(2), -12);
    }

    private static void floorsThatDraw() {
        ChainLeap x = kicked();
        x.set(0, 100);
        x.set(4, 400);
        x.set(3, 9999);
        // PULL 240 or 80 behind a PACE of 200: 388 or 396.
        Due.same("forty more", x.floor(1, 40, 2), 8);
        Due.same("none in the first", x.floor(1, 40, 1), 0);
        Due.same("no more", x.floor(1, 0, 500), 0);
        // DRAWN: LESS is 20, then -20: PULL 80, or -80.
        x.keep(1, 1, 4, 40);
        Due.same("beyond the draw of a weight", x.floor(1, 40, 2), 8);
        Due.same("held to 3000", x.floor(1, 40, 500), 3000 - paceOf(4, 40, 9999, 400, 500));
        // With a LENGTH of 59 the quicker one has 20 and 39 OUT and is DONE; the slower one runs on.
        x.keep(1, 1, 1, 40);
        x.set(3, 59);
        Due.same("done sooner, slower", x.floor(1, 40, 3), 396 - 542);
        Due.same("no shelf", x.floor(-1, 0, 1), -1000000001);
        Due.same("no shelf", x.floor(8, 0, 1), -1000000001);
        Due.same("below", x.floor(1, -1, 1), -1000000001);
        Due.same("beyond", x.floor(1, 41, 1), -1000000001);
        Due.same("no ticks", x.floor(1, 0, 0), -1000000001);
        Due.same("too many", x.floor(1, 0, 501), -1000000001);
        Due.same("-1 goes ahead", x.floor(0, 41, 1), -1000000001);
        Due.same("nothing", x.floor(0, 0, 1), -1000000011);
        Due.same("a row", x.floor(2, 0, 1), -1000000012);
    }

    private static void scalesBeneath() {
        ChainLeap x = kicked();
        x.set(0, 100);
        x.set(4, 400);
        Due.same("all in the jar", x.scale(1, 0), 2000);
        Due.same("one tick", x.scale(1, 1), 980 * 2 + 160);
        Due.same("two ticks", x.scale(1, 2), 942 * 2 + 602);
        Due.same("three ticks", x.scale(1, 3), 888 * 2 + 1175);
        x.set(3, 58);
        Due.same("done", x.scale(1, 2), 602);
        Due.same("the pace stays", x.scale(1, 500), 602);
        Due.same("no shelf", x.scale(-1, 0), -1);
        Due.same("no shelf", x.scale(8, 0), -1);
        Due.same("below", x.scale(1, -1), -1);
        Due.same("beyond", x.scale(1, 501), -1);
        Due.same("-1 goes ahead", x.scale(0, 501), -1);
        Due.same("nothing", x.scale(0, 0), -11);
        Due.same("a row", x.scale(2, 0), -12);
    }

    private static void slantsOfJars() {
        ChainLeap x = kicked();
        x.set(0, 100);
        Due.same("upright", x.slant(1, 0), 66);
        Due.same("half", x.slant(1, 50), 33);
        // 66.66 times 0.85 is 56.67; 66 times 0.85 would be 56.1; 66.66 times 0.91 is 60.67, 66 times that 60.06.
        Due.same("by 15", x.slant(1, 15), 56);
        // 66.66 times 0.3 is 20, where 66 times 0.3 would be 19.8.
        Due.same("cut once", x.slant(1, 70), 20);
        Due.same("flat", x.slant(1, 100), 0);
        x.keep(3, 1, 4, 40);
        x.set(4, 400);
        Due.same("the highest", x.slant(3, 0), 800);
        Due.same("no kick", Due.withStory(0, 40).slant(1, 10), 0);
        Due.same("no shelf", x.slant(-1, 0), -1);
        Due.same("no shelf", x.slant(8, 0), -1);
        Due.same("below", x.slant(1, -1), -1);
        Due.same("beyond", x.slant(1, 101), -1);
        Due.same("-1 goes ahead", x.slant(0, 101), -1);
        Due.same("nothing", x.slant(0, 0), -11);
        Due.same("a row", x.slant(2, 0), -12);
    }

    private static void judgedFilms() {
        ChainLeap x = Due.withStory(1, 40);
        x.set(0, 100);
        x.set(4, 400);
        Due.numbers(x, 2, 1, 200, 388, 542);
        Due.same("all so", x.judge(1, 2), -4);
        Due.numbers(x, 2, 2, 200, 387, 0);
        Due.same("the second", x.judge(1, 2), 1);
        Due.numbers(x, 2, 2, 0, 388);
        Due.same("the first", x.judge(1, 2), 0);
        Due.numbers(x, 2, 2, Integer.MIN_VALUE, 388, -32768, -128);
        Due.same("the first is skipped", x.judge(1, 2), 2);
        Due.numbers(x, 2, 1, -32768, 388, -128);
        Due.same("the first is skipped", x.judge(1, 2), 2);
        Due.numbers(x, 2, 0, -128, -128, 0);
        Due.same("two are skipped", x.judge(1, 2), 2);
        x.row(2, 1, 0);
        Due.same("nothing told", x.judge(1, 2), -4);
        x.set(3, 20);
        Due.numbers(x, 2, 1, 200, 200, 200);
        Due.same("done, the pace stays", x.judge(1, 2), -4);
        Due.same("no shelf", x.judge(-1, 2), -1);
        Due.same("no shelf", x.judge(1, 8), -1);
        Due.same("-1 goes ahead", x.judge(0, 8), -1);
        Due.same("nothing", x.judge(0, 2), -11);
        Due.same("nothing", x.judge(1, 0), -11);
        Due.same("-11 goes ahead", x.judge(2, 0), -11);
        Due.same("-11 goes ahead", x.judge(0, 1), -11);
        Due.same("two stories", x.judge(1, 1), -12);
        Due.same("two rows", x.judge(2, 2), -12);
        Due.same("turned", x.judge(2, 1), -12);
    }

    /** What is looked at in mind neither begins with the run that stands nor changes it. */
    private static void inMindAlone() {
        ChainLeap x = kicked();
        Due.text(x, 3, "r1;r2;");
        x.tries(3);
        int[] before = told(x);
        x.run(1, 17);
        int[] states = new int[6];
        for (int what = 0; what < 6; what++) {
            states[what] = x.state(what);
        }
        int[] after = told(x);
        for (int i = 0; i < before.length; i++) {
            Due.same("told " + i, after[i], before[i]);
        }
        for (int what = 0; what < 6; what++) {
            Due.same("state " + what, x.state(what), states[what]);
        }
        Due.same("tries", x.count(0), 2);
    }

    private static int[] told(ChainLeap x) {
        return new int[] {
            x.rests(1, 0), x.rests(1, 1), x.ahead(1, 0), x.parts(1, 1, 0), x.most(1), x.lays(1), x.without(1, 9),
            x.rested(1), x.when(1), x.floor(1, 9, 9), x.scale(1, 9), x.slant(1, 9), x.judge(1, 2)};
    }
}
