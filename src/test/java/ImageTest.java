/** Promises 24 to 26: image, restore, count. */
public final class ImageTest {
    public static void main(String[] args) {
        restoredAllIsAsItWas();
        theImageStays();
        aLaterImageTakesItsPlace();
        countRefuses();
        Due.end();
    }

    private static void restoredAllIsAsItWas() {
        ChainLeap x = Due.withStory(1, 40);
        Due.same("no image", x.restore(), -3);
        x.set(0, 60);
        x.set(1, 61);
        x.set(2, 1);
        x.set(3, 900);
        x.set(4, 99);
        Due.read(x, "r1b2l0d3;r4;");
        x.run(1, 7);
        int[] states = new int[6];
        for (int what = 0; what < 6; what++) {
            states[what] = x.state(what);
        }
        Due.same("image", x.image(), 7);
        x.run(1, 5);
        Due.same("it arches otherwise", x.state(2) > 0 && x.state(2) != states[2] ? 1 : 0, 1);
        x.set(0, 1);
        x.set(1, 2);
        x.set(2, 2);
        x.set(3, 9999);
        x.set(4, 4);
        x.leave();
        x.leave();
        Due.read(x, "r99b99l2d399;");
        x.keep(1, 1, 3, 9);
        Due.same("restore", x.restore(), 7);
        for (int what = 0; what < 6; what++) {
            Due.same("state " + what, x.state(what), states[what]);
        }
        int[] counts = {2, 60, 61, 1, 900, 99};
        for (int what = 0; what < 6; what++) {
            Due.same("count " + what, x.count(what), counts[what]);
        }
        int[] tried = {1, 2, 0, 3, 4, 61, 1, 99};
        for (int i = 0; i < 8; i++) {
            Due.same("try " + i, x.tryOf(i / 4, i % 4), tried[i]);
        }
        Due.same("shelves stay", x.waits(1), -5);
        Due.same("texts stay", x.element(0, 1), '9');
    }

    private static void theImageStays() {
        ChainLeap x = Due.withStory(1, 40);
        x.run(1, 3);
        Due.same("image", x.image(), 3);
        for (int k = 0; k < 3; k++) {
            Due.same("run", x.run(1, 4), 7);
            Due.same("restore", x.restore(), 3);
        }
        x.anew();
        Due.same("restore", x.restore(), 3);
        x.leave();
        Due.read(x, "r5;");
        Due.same("restore", x.restore(), 3);
        Due.same("no tries", x.count(0), 0);
    }

    private static void aLaterImageTakesItsPlace() {
        ChainLeap x = Due.withStory(1, 40);
        Due.same("image", x.image(), 0);
        x.run(1, 4);
        Due.same("image", x.image(), 4);
        x.set(0, 3);
        Due.same("restore", x.restore(), 4);
        Due.same("rod", x.count(1), 50);
    }

    private static void countRefuses() {
        ChainLeap x = new ChainLeap();
        Due.same("count", x.count(-1), -1);
        Due.same("count", x.count(6), -1);
        Due.same("count", x.count(Integer.MAX_VALUE), -1);
        Due.same("count", x.count(Integer.MIN_VALUE), -1);
    }
}
