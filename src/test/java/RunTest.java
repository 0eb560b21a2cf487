/** Promises 6 to 10: story, run, anew, state, rests. */
public final class RunTest {
    public static void main(String[] args) {
        storiesByTheChain();
        storyRefuses();
        aRunTickByTick();
        aDoneRunSinks();
        aRunThatDrawsSlower();
        runRefuses();
        anewAndState();
        restsInLeastTerms();
        restsRefuses();
        Due.end();
    }

    private static void tells(int kind, int figure, int[] chain, int kick, int draw, int hold) {
        ChainLeap x = Due.withStory(kind, figure);
        x.set(0, chain[0]);
        x.set(1, chain[1]);
        x.set(2, chain[2]);
        String named = "kind " + kind + " figure " + figure + " rod " + chain[0] + " bend " + chain[1] + " laid " + chain[2];
        Due.same("kick of " + named, x.story(1, 0), kick);
        Due.same("draw of " + named, x.story(1, 1), draw);
        Due.same("hold of " + named, x.story(1, 2), hold);
    }

    private static void storiesByTheChain() {
        int[] stiff = {100, 0, 0};
        int[] odd = {99, 33, 1};
        int[] loops = {7, 100, 2};
        tells(0, 40, stiff, 0, 0, 0);
        tells(1, 40, stiff, 40, 0, 0);
        tells(2, 40, stiff, 40, 0, 0);
        tells(3, 39, stiff, 19, 0, 0);
        tells(4, 40, stiff, 40, 40, 0);
        tells(5, 40, stiff, 0, 0, 40);
        tells(6, 39, stiff, 19, 0, 9);
        tells(7, 40, stiff, 0, 0, 0);
        tells(1, 39, odd, 38, 0, 0);
        // 38 times 67 by 100; without the first cut it would be 25.8 as well, with figure 3 not.
        tells(2, 39, odd, 25, 0, 0);
        tells(2, 3, odd, 1, 0, 0);
        tells(2, 37, new int[] {41, 0, 0}, 15, 0, 0);
        // 3 times 50 by 100 is cut to 1 first: 1 times 99 by 100 is 0, where 1.485 would be 1.
        tells(2, 3, new int[] {50, 1, 0}, 0, 0, 0);
        tells(3, 39, odd, 39, 0, 0);
        tells(4, 39, odd, 38, 39, 0);
        tells(6, 39, odd, 19, 0, 9);
        tells(7, 39, odd, 0, 0, 0);
        tells(1, 13, loops, 0, 0, 0);
        tells(1, 15, loops, 1, 0, 0);
        tells(2, 40, loops, 0, 0, 0);
        tells(3, 40, loops, 0, 0, 0);
        tells(6, 3, loops, 0, 0, 0);
        tells(5, 0, loops, 0, 0, 0);
    }

    private static void storyRefuses() {
        ChainLeap x = Due.withStory(1, 30);
        x.row(2, 0, 1);
        Due.same("no shelf", x.story(-1, 0), -1);
        Due.same("no shelf", x.story(8, 0), -1);
        Due.same("no such what", x.story(1, 3), -1);
        Due.same("no such what", x.story(1, -1), -1);
        Due.same("-1 goes ahead", x.story(0, 3), -1);
        Due.same("nothing", x.story(0, 0), -11);
        Due.same("a row", x.story(2, 0), -12);
    }

    private static void stands(ChainLeap x, int tick, int pace, int arch, int out, int highest, int done) {
        int[] due = {tick, pace, arch, out, highest, done};
        for (int what = 0; what < due.length; what++) {
            Due.same("tick " + tick + " state " + what, x.state(what), due[what]);
        }
    }

    private static void aRunTickByTick() {
        ChainLeap x = Due.withStory(1, 40);
        x.set(0, 100);
        x.set(4, 400);
        // KICK 40, LESS 60, PUSH 4000.
        Due.same("run", x.run(1, 1), 1);
        stands(x, 1, 200, 40, 20, 40, 0);
        // PULL 240: 3760 by 20 is 188; 388 times 388 times 40 by 10000 is 602; 562 by 4 is 140.
        Due.same("run", x.run(1, 1), 2);
        stands(x, 2, 388, 180, 58, 180, 0);
        // PULL 903: 3097 by 20 is 154; 542: 1175; 995 by 4 is 248.
        Due.same("run", x.run(1, 1), 3);
        stands(x, 3, 542, 428, 112, 428, 0);
        // By KIND 0 now: PULL 2937: 1063 by 20 is 53; 595; arch 428 less 107.
        x.keep(2, 1, 0, 0);
        Due.same("run", x.run(2, 1), 4);
        stands(x, 4, 595, 321, 171, 428, 0);
        // AIRED with HOLD 40: PULL 354025 times 140 by 10000 is 4956: -956 by 20 is -47, toward 0.
        x.keep(3, 1, 5, 40);
        Due.same("run", x.run(3, 1), 5);
        stands(x, 5, 548, 241, 225, 428, 0);
        ChainLeap y = Due.withStory(1, 40);
        y.set(0, 100);
        y.set(4, 400);
        y.keep(2, 1, 0, 0);
        Due.same("at once", y.run(1, 3), 3);
        Due.same("at once", y.run(2, 1), 4);
        stands(y, 4, 595, 321, 171, 428, 0);
    }

    private static void aDoneRunSinks() {
        ChainLeap x = Due.withStory(1, 40);
        x.set(0, 100);
        x.set(4, 400);
        x.set(3, 59);
        x.run(1, 2);
        stands(x, 2, 388, 180, 58, 180, 0);
        x.run(1, 1);
        stands(x, 3, 542, 428, 59, 428, 1);
        x.run(1, 1);
        stands(x, 4, 542, 378, 59, 428, 1);
        x.run(1, 7);
        stands(x, 11, 542, 28, 59, 428, 1);
        x.run(1, 1);
        stands(x, 12, 542, 0, 59, 428, 1);
        x.run(1, 1);
        stands(x, 13, 542, 0, 59, 428, 1);
        Due.same("longer", x.set(3, 9999), 59);
        stands(x, 13, 542, 0, 59, 428, 0);
        // It goes on from there: PULL 1762: 2238 by 20 is 111; 653: 1705 by 4 is 426.
        x.run(1, 1);
        stands(x, 14, 653, 426, 124, 428, 0);
    }

    private static void aRunThatDrawsSlower() {
        ChainLeap x = Due.withStory(0, 0);
        x.set(4, 400);
        x.set(3, 9999);
        x.run(1, 30);
        int pace = x.state(1);
        x.set(4, 1);
        x.run(1, 1);
        // PUSH 10, and PULL is far above it: the pace falls, its change cut toward 0.
        Due.same("slower", x.state(1), pace - (pace * pace / 100 - 10) / 20);
        x.run(1, 400);
        // Where PULL less PUSH stays below 20 nothing changes: 54 times 54 by 100 is 29.
        Due.same("slowest", x.state(1), 54);
    }

    private static void runRefuses() {
        ChainLeap x = Due.withStory(1, 30);
        x.row(2, 0, 1);
        Due.same("no shelf", x.run(-1, 1), -1);
        Due.same("no shelf", x.run(8, 1), -1);
        Due.same("no ticks", x.run(1, 0), -1);
        Due.same("too many", x.run(1, 501), -1);
        Due.same("-1 goes ahead", x.run(0, 501), -1);
        Due.same("nothing", x.run(0, 1), -11);
        Due.same("a row", x.run(2, 1), -12);
        stands(x, 0, 0, 0, 0, 0, 0);
        for (int k = 1; k < 20; k++) {
            Due.same("run on", x.run(1, 500), 500 * k);
        }
        Due.same("beyond", x.run(1, 500), -2);
        Due.same("beyond ahead of nothing", x.run(0, 500), -2);
        Due.same("beyond ahead of a row", x.run(2, 500), -2);
        Due.same("the tick stays", x.state(0), 9500);
        Due.same("to the end", x.run(1, 499), 9999);
        Due.same("one more", x.run(1, 1), -2);
        Due.same("anew", x.anew(), 9999);
        Due.same("again", x.run(1, 500), 500);
    }

    private static void anewAndState() {
        ChainLeap x = Due.withStory(3, 40);
        Due.read(x, "r1;");
        x.set(1, 7);
        x.run(1, 123);
        Due.same("arch above 0", x.state(4) > 0 ? 1 : 0, 1);
        Due.same("anew", x.anew(), 123);
        stands(x, 0, 0, 0, 0, 0, 0);
        Due.same("tries stay", x.count(0), 1);
        Due.same("the chain stays", x.count(2), 7);
        Due.same("the shelf stays", x.waits(1), -36);
        Due.same("anew twice", x.anew(), 0);
        Due.same("state", x.state(-1), -1);
        Due.same("state", x.state(6), -1);
    }

    private static void shares(int kind, int figure, int rod, int above, int below) {
        ChainLeap x = Due.withStory(kind, figure);
        x.set(0, rod);
        Due.same("above " + kind + " " + figure + " " + rod, x.rests(1, 0), above);
        Due.same("below " + kind + " " + figure + " " + rod, x.rests(1, 1), below);
    }

    private static void restsInLeastTerms() {
        shares(0, 40, 100, 0, 1);
        shares(7, 40, 100, 0, 1);
        shares(5, 40, 100, 0, 1);
        shares(1, 40, 100, 2, 3);
        shares(1, 0, 100, 0, 1);
        shares(1, 7, 100, 7, 93);
        shares(1, 1, 100, 1, 99);
        shares(1, 2, 100, 1, 49);
        shares(4, 40, 100, 2, 1);
        shares(4, 40, 0, 0, 1);
        shares(4, 25, 100, 1, 2);
        // KICK 20, HOLD 10, LESS 90.
        shares(6, 40, 100, 2, 9);
        shares(3, 40, 0, 1, 4);
    }

    private static void restsRefuses() {
        ChainLeap x = Due.withStory(1, 30);
        x.row(2, 0, 1);
        Due.same("no shelf", x.rests(-1, 0), -1);
        Due.same("no shelf", x.rests(8, 0), -1);
        Due.same("no such part", x.rests(1, 2), -1);
        Due.same("no such part", x.rests(1, -1), -1);
        Due.same("-1 goes ahead", x.rests(0, 2), -1);
        Due.same("nothing", x.rests(0, 0), -11);
        Due.same("a row", x.rests(2, 0), -12);
    }
}
