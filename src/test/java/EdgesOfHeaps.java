/** Promises 1 and 3 to 6: a new object, bowl, comes, warm, turn. */
final class EdgesOfHeaps {
    private static final int[] FAR = {Edges.MIN, Edges.MIN + 1, -2, -1, Edges.MAX};

    private final Edges e;

    EdgesOfHeaps(Edges e) {
        this.e = e;
    }

    void ask() {
        newObject();
        bowl();
        comes();
        comesRefused();
        warm();
        turn();
    }

    private void newObject() {
        e.says(1, "No BOWLS.");
        BowlsWithin full = Edges.full();
        BowlsWithin x = new BowlsWithin();
        e.is("count(0)", x.count(0), 0);
        e.is("count(1)", x.count(1), 0);
        e.is("bowl(0, 0)", x.bowl(0, 0), -1);
        e.is("nest(1)", x.nest(1), -1);
        e.is("turn(0)", x.turn(0), -1);
        e.is("fewest()", x.fewest(), 0);
        e.is("restore()", x.restore(), -3);
        x.keep(0, 1, 0, 0);
        e.is("the first", x.comes(0, 9, 9, 0), 0);
        e.is("bowl(0, 3)", x.bowl(0, 3), 9);
        e.is("another object's", full.bowl(0, 3), 99);
    }

    private void bowl() {
        e.says(3, "Of a BOWL: 0 KIND, 1 FIGURE, 2 TURN, 3 WIDTH, 4 DEPTH, 5 OUTSIDE, 6 INSIDE, 7 RISE.");
        int[][] want = {{5, 4, 1, 30, 8, 32, 20, 5}, {1, 7, 1, 60, 9, 67, 62, 1}};
        BowlsWithin x = Due.heapOf("b54130,8;b17160,9;w3;");
        for (int bowl = 0; bowl <= 1; bowl++) {
            for (int what = 0; what <= 7; what++) {
                e.is("bowl(" + bowl + ", " + what + ")", x.bowl(bowl, what), want[bowl][what]);
            }
        }
        e.says(3, "-1.");
        for (int far : FAR) {
            e.leaves("bowl(" + far + ", 0)", Edges::some, y -> y.bowl(far, 0), -1);
            e.leaves("bowl(0, " + far + ")", Edges::some, y -> y.bowl(0, far), -1);
        }
        for (int what = 0; what <= 7; what++) {
            int w = what;
            e.is("bowl(2, " + w + ") of three", Edges.some().bowl(2, w), new int[] {3, 4, 0, 30, 8, 30, 26, 5}[w]);
            e.leaves("bowl(3, " + w + ") of three", Edges::some, y -> y.bowl(3, w), -1);
        }
        e.leaves("bowl(0, 8)", Edges::some, y -> y.bowl(0, 8), -1);
        e.leaves("bowl(3, 8)", Edges::some, y -> y.bowl(3, 8), -1);
        e.is("bowl(8, 3) of nine", Edges.full().bowl(8, 3), 83);
        e.is("bowl(9, 3) of nine", Edges.full().bowl(9, 3), -1);
    }

    private void comes() {
        e.says(4, "The BOWL on SHELF d comes as one more, of WIDTH w, DEPTH e (1 .. 99), TURN t (0, 1): its number.");
        for (int d = 0; d <= 7; d++) {
            BowlsWithin x = Edges.some();
            x.keep(d, 1, 7 - d, d + 2);
            e.is("comes(" + d + ", 99, 1, 1)", x.comes(d, 99, 1, 1), 3);
            e.is("comes(" + d + ", 1, 99, 0)", x.comes(d, 1, 99, 0), 4);
            int[][] want = {{7 - d, d + 2, 1, 99, 1}, {7 - d, d + 2, 0, 1, 99}};
            for (int what = 0; what <= 4; what++) {
                e.is("bowl(3, " + what + ")", x.bowl(3, what), want[0][what]);
                e.is("bowl(4, " + what + ")", x.bowl(4, what), want[1][what]);
            }
            e.is("how many", x.count(0), 5);
            e.is("one ahead", x.bowl(2, 3), 30);
        }
    }

    private void comesRefused() {
        e.says(4, "-1, -11, -12 (a ROW), -2.");
        int[][] wrong = {
            {-1, 9, 9, 0}, {8, 9, 9, 0}, {1, 0, 9, 0}, {1, 100, 9, 0}, {1, 9, 0, 0}, {1, 9, 100, 0}, {1, 9, 9, -1},
            {1, 9, 9, 2}, {Edges.MAX, 9, 9, 0}, {1, Edges.MIN, 9, 0}, {1, 9, Edges.MAX, 0}, {1, 9, 9, Edges.MIN}
        };
        for (int[] w : wrong) {
            String call = "comes(" + w[0] + ", " + w[1] + ", " + w[2] + ", " + w[3] + ")";
            e.leaves(call, Edges::some, x -> x.comes(w[0], w[1], w[2], w[3]), -1);
            e.leaves(call + " and no room", Edges::full, x -> x.comes(w[0], w[1], w[2], w[3]), -1);
        }
        int[] held = {5, 2};
        for (int d : held) {
            e.leaves("comes(" + d + ", 0, 9, 0)", Edges::some, x -> x.comes(d, 0, 9, 0), -1);
            e.leaves("comes(" + d + ", 9, 100, 0)", Edges::some, x -> x.comes(d, 9, 100, 0), -1);
            e.leaves("comes(" + d + ", 9, 9, 2)", Edges::some, x -> x.comes(d, 9, 9, 2), -1);
            e.leaves("comes(" + d + ", 9, 9, 0)", Edges::some, x -> x.comes(d, 9, 9, 0), d == 5 ? -11 : -12);
            e.leaves("comes(" + d + ", 9, 9, 0) and no room", Edges::full, x -> x.comes(d, 9, 9, 0), d == 5 ? -11 : -12);
        }
        e.leaves("comes(6, 9, 9, 0) from an empty row", Edges::some, x -> x.comes(6, 9, 9, 0), -12);
        e.leaves("comes(1, 9, 9, 0) and no room", Edges::full, x -> x.comes(1, 9, 9, 0), -2);
        BowlsWithin eight = Due.heapOf(Edges.NINE + "x;");
        eight.keep(0, 1, 0, 0);
        e.is("room for one", eight.comes(0, 9, 9, 0), 8);
        e.is("room for none", eight.comes(0, 9, 9, 0), -2);
        Due.told(eight, "x;");
        eight.keep(0, 1, 0, 0);
        e.is("room again", eight.comes(0, 9, 9, 0), 8);
    }

    private void warm() {
        e.says(5, "WARMTH becomes v: what it was.");
        BowlsWithin x = new BowlsWithin();
        int was = 0;
        int[] warmths = {9, 0, 0, 1, 8, 9, 9, 5};
        for (int v : warmths) {
            e.is("warm(" + v + ")", x.warm(v), was);
            e.is("count(1)", x.count(1), v);
            was = v;
        }
        e.is("warm(2) by an object with bowls", Edges.some().warm(2), 1);
        e.says(5, "-1.");
        e.leaves("warm(10)", Edges::some, y -> y.warm(10), -1);
        for (int far : FAR) {
            e.leaves("warm(" + far + ")", Edges::some, y -> y.warm(far), -1);
        }
    }

    private void turn() {
        e.says(6, "TURN of a BOWL is the other one: which.");
        BowlsWithin x = Edges.some();
        int[] turned = {1, 0, 1};
        for (int bowl = 0; bowl <= 2; bowl++) {
            e.is("turn(" + bowl + ")", x.turn(bowl), turned[bowl]);
            e.is("bowl(" + bowl + ", 2)", x.bowl(bowl, 2), turned[bowl]);
        }
        for (int bowl = 0; bowl <= 2; bowl++) {
            e.is("turn(" + bowl + ") back", x.turn(bowl), 1 - turned[bowl]);
            e.is("bowl(" + bowl + ", 2) back", x.bowl(bowl, 2), 1 - turned[bowl]);
        }
        e.is("turn(8) of nine", Edges.full().turn(8), 1);
        e.says(6, "-1.");
        e.leaves("turn(3) of three", Edges::some, y -> y.turn(3), -1);
        e.leaves("turn(9) of nine", Edges::full, y -> y.turn(9), -1);
        e.leaves("turn(0) of none", BowlsWithin::new, y -> y.turn(0), -1);
        for (int far : FAR) {
            e.leaves("turn(" + far + ")", Edges::some, y -> y.turn(far), -1);
        }
    }
}
