/** Promises 24 to 26: image, restore, count. */
public final class ImageTest {
    private static final Due due = new Due("image");

    public static void main(String[] args) {
        image();
        shelvesStay();
        count();
        due.end();
    }

    private static void image() {
        BowlsWithin x = new BowlsWithin();
        due.is("none yet", x.restore(), -3);
        due.is("of no bowls", x.image(), 0);
        Due.told(x, "b12110,9;b34020,8;w5;");
        due.is("back to none", x.restore(), 0);
        due.is("warmth too", x.count(1), 0);
        Due.told(x, "b12110,9;b34020,8;w5;");
        due.is("of two", x.image(), 2);
        Due.told(x, "x;x;b55055,55;w2;t0;b00010,10;b00010,10;");
        due.is("restored", x.restore(), 2);
        int[][] want = {{1, 2, 1, 10, 9}, {3, 4, 0, 20, 8}};
        for (int bowl = 0; bowl < 2; bowl++) {
            for (int what = 0; what < 5; what++) {
                due.is("bowl(" + bowl + ", " + what + ")", x.bowl(bowl, what), want[bowl][what]);
            }
        }
        due.is("no third", x.bowl(2, 0), -1);
        due.is("warmth", x.count(1), 5);
        x.turn(0);
        x.warm(0);
        due.is("again", x.restore(), 2);
        due.is("turn", x.bowl(0, 2), 1);
        due.is("warmth again", x.count(1), 5);
        Due.told(x, "x;");
        due.is("a later one", x.image(), 1);
        Due.told(x, "x;");
        due.is("the later one", x.restore(), 1);
    }

    private static void shelvesStay() {
        BowlsWithin x = new BowlsWithin();
        x.keep(1, 1, 0, 3);
        Due.list(x, 2, 2, 5, 6);
        x.image();
        x.keep(1, 1, 3, 0);
        x.put(2, 1, 77);
        x.keep(3, 1, 6, 6);
        x.restore();
        due.is("bowl stays", x.price(1), 8);
        due.is("row stays", x.element(2, 1), 77);
        due.is("later shelf stays", x.price(3), 13);
    }

    private static void count() {
        BowlsWithin x = Due.heapOf("b00030,9;b00010,10;b00020,9;b01012,9;w1;");
        due.is("bowls", x.count(0), 4);
        due.is("warmth", x.count(1), 1);
        due.is("pairs", x.count(2), 3);
        due.is("depths", x.count(3), 37);
        x.warm(0);
        due.is("pairs when cold", x.count(2), 4);
        due.is("pairs of the first", Due.heapOf("b00010,9;b00020,9;").count(2), 1);
        int[] wrong = {-1, 4, Integer.MIN_VALUE, Integer.MAX_VALUE};
        for (int w : wrong) {
            due.is("count(" + w + ")", x.count(w), -1);
        }
    }
}
