/** Promises 27 to 33: keep, row, put, element, copy, price, toss. */
public final class ShelvesTest {
    private static final Due due = new Due("shelves");

    public static void main(String[] args) {
        keep();
        row();
        put();
        element();
        copy();
        copyRefused();
        price();
        toss();
        due.end();
    }

    private static void keep() {
        BowlsWithin x = new BowlsWithin();
        for (int d = 0; d < 8; d++) {
            due.is("keep on " + d, x.keep(d, 1, 1, d), 0);
        }
        for (int d = 0; d < 8; d++) {
            due.is("price on " + d, x.price(d), 4 + d);
        }
        due.is("nothing, others wild", x.keep(2, 0, -5, 77), 0);
        due.is("nothing is held", x.price(2), -11);
        int[][] wrong = {
            {-1, 0, 0, 0}, {8, 0, 0, 0}, {3, -1, 0, 0}, {3, 2, 0, 0}, {3, 1, -1, 0}, {3, 1, 8, 0}, {3, 1, 0, -1},
            {3, 1, 0, 10}
        };
        for (int[] w : wrong) {
            due.is("keep wrongly", x.keep(w[0], w[1], w[2], w[3]), -1);
        }
        due.is("it stays", x.price(3), 7);
        Due.list(x, 3, 0, 1);
        due.is("a row goes", x.keep(3, 1, 0, 0) * 100 + x.price(3), 4);
    }

    private static void row() {
        BowlsWithin x = new BowlsWithin();
        due.is("a hundred", x.row(0, 0, 100), 0);
        due.is("last is 0", x.element(0, 99), 0);
        x.put(0, 50, 9);
        x.put(0, 0, 9);
        due.is("anew", x.row(0, 1, 51), 0);
        due.is("0 at first", x.element(0, 50), 0);
        due.is("first is 0", x.element(0, 0), 0);
        due.is("no hundredth", x.put(0, 51, 1), -13);
        int[][] wrong = {{-1, 0, 5}, {8, 0, 5}, {0, -1, 5}, {0, 3, 5}, {0, 0, 101}, {8, 0, -1}, {0, 3, -1}};
        for (int[] w : wrong) {
            due.is("row wrongly", x.row(w[0], w[1], w[2]), -1);
        }
        due.is("below 0", x.row(0, 2, -1), -14);
        due.is("far below 0", x.row(0, 2, Integer.MIN_VALUE), -14);
        due.is("it stays", x.put(0, 50, 70000), 0);
        due.is("shorts still", x.element(0, 50), 70000 - 65536);
        due.is("empty", x.row(1, 2, 0), 0);
        due.is("no place in it", x.put(1, 0, 1), -13);
        x.keep(1, 1, 0, 0);
        due.is("a bowl goes", x.row(1, 2, 1), 0);
        due.is("a row is there", x.price(1), -12);
    }

    private static void put() {
        BowlsWithin x = new BowlsWithin();
        int[] values = {0, 127, 128, 255, 256, -1, -129, 32767, 32768, 65535, 65536, Integer.MIN_VALUE, 305419896};
        for (int v : values) {
            long[] want = {(byte) v, (short) v, v};
            for (int sort = 0; sort < 3; sort++) {
                x.row(sort, sort, 3);
                due.is("put " + v, x.put(sort, 2, v), 0);
                due.is(v + " in sort " + sort, x.element(sort, 2), want[sort]);
                due.is("neighbour", x.element(sort, 1), 0);
            }
        }
        due.is("no shelf", x.put(8, 0, 0), -1);
        due.is("no shelf below", x.put(-1, 0, 0), -1);
        due.is("nothing", x.put(3, 0, 0), -11);
        x.keep(3, 1, 0, 0);
        due.is("a bowl", x.put(3, 0, 0), -12);
        due.is("below", x.put(0, -1, 0), -13);
        due.is("above", x.put(0, 3, 0), -13);
        due.is("far above", x.put(0, Integer.MAX_VALUE, 0), -13);
    }

    private static void element() {
        BowlsWithin x = new BowlsWithin();
        Due.list(x, 0, 2, 5, 6, -7);
        x.keep(1, 1, 0, 0);
        due.is("first", x.element(0, 0), 5);
        due.is("third", x.element(0, 2), -7);
        thrown(x, 8, 0, 1);
        thrown(x, -1, 0, 1);
        thrown(x, -1, -1, 1);
        thrown(x, Integer.MAX_VALUE, 0, 1);
        thrown(x, 0, 3, 2);
        thrown(x, 0, -1, 2);
        thrown(x, 0, Integer.MIN_VALUE, 2);
        thrown(x, 1, 0, 2);
        thrown(x, 2, 0, 2);
        x.row(2, 0, 0);
        thrown(x, 2, 0, 2);
    }

    private static void thrown(BowlsWithin x, int d, int i, int want) {
        due.is("thrown by element(" + d + ", " + i + ")", Due.thrownBy(() -> x.element(d, i)), want);
    }

    private static void copy() {
        BowlsWithin x = new BowlsWithin();
        Due.list(x, 0, 1, 1, 2, 3, 4, 5);
        x.row(1, 1, 3);
        due.is("three", x.copy(0, 2, 1, 0, 3), 3);
        holds(x, 1, 3, 4, 5);
        holds(x, 0, 1, 2, 3, 4, 5);
        due.is("one", x.copy(0, 0, 1, 2, 1), 1);
        holds(x, 1, 3, 4, 1);
        due.is("none", x.copy(0, 5, 1, 3, 0), 0);
        due.is("up in itself", x.copy(0, 0, 0, 1, 4), 4);
        holds(x, 0, 1, 1, 2, 3, 4);
        due.is("down in itself", x.copy(0, 2, 0, 0, 3), 3);
        holds(x, 0, 2, 3, 4, 3, 4);
    }

    private static void holds(BowlsWithin x, int d, int... want) {
        for (int i = 0; i < want.length; i++) {
            due.is("element(" + d + ", " + i + ")", x.element(d, i), want[i]);
        }
    }

    private static void copyRefused() {
        BowlsWithin x = new BowlsWithin();
        Due.list(x, 0, 1, 1, 2, 3, 4, 5);
        Due.list(x, 1, 1, 6, 7, 8);
        x.row(2, 0, 5);
        x.keep(3, 1, 0, 0);
        due.is("no shelf", x.copy(8, 0, 0, 0, 1), -1);
        due.is("no other shelf", x.copy(0, 0, -1, 0, 1), -1);
        due.is("no shelf, nothing", x.copy(4, 0, 8, 0, 1), -1);
        due.is("nothing", x.copy(4, 0, 0, 0, 1), -11);
        due.is("nothing there", x.copy(0, 0, 4, 0, 1), -11);
        due.is("a bowl, nothing there", x.copy(3, 0, 4, 0, 1), -11);
        due.is("a bowl", x.copy(3, 0, 0, 0, 1), -12);
        due.is("a bowl there", x.copy(0, 0, 3, 0, 1), -12);
        due.is("a bowl, bytes there", x.copy(3, 0, 2, 0, 1), -12);
        due.is("bytes, a bowl there", x.copy(2, 0, 3, 0, 1), -12);
        due.is("two bowls", x.copy(3, 0, 3, 0, 1), -12);
        due.is("two sorts", x.copy(0, 0, 2, 0, 1), -12);
        due.is("two sorts, no place", x.copy(0, 9, 2, 0, 1), -12);
        int big = Integer.MAX_VALUE;
        int[][] wrong = {
            {-1, 0, 1}, {0, -1, 1}, {0, 0, -1}, {3, 0, 3}, {0, 1, 3}, {0, 0, 4}, {6, 0, 0}, {0, 4, 0}, {big, 0, 1},
            {0, big, 1}, {0, 0, big}, {1, 1, big}, {big, big, big}, {0, 0, Integer.MIN_VALUE}
        };
        for (int[] w : wrong) {
            due.is("places " + w[0] + " " + w[1] + " " + w[2], x.copy(0, w[0], 1, w[1], w[2]), -13);
        }
        holds(x, 1, 6, 7, 8);
    }

    private static void price() {
        int[][] want = {
            {4, 4, 4, 4}, {4, 5, 9, 13}, {3, 3, 3, 3}, {8, 8, 8, 8}, {2, 2, 4, 6}, {8, 7, 3, -1}, {13, 13, 13, 13},
            {3, 6, 18, 30}
        };
        int[] figures = {0, 1, 5, 9};
        each("price", want, figures, true);
    }

    private static void toss() {
        int[][] want = {
            {-15, 1, 5, 9}, {-15, 1, 5, 9}, {-15, 1, 5, 9}, {-15, 1, 5, 9}, {-15, -15, -15, -15},
            {-15, 101, 105, 109}, {-15, 1, 5, 9}, {-15, 206, 218, 230}
        };
        int[] figures = {0, 1, 5, 9};
        each("toss", want, figures, false);
    }

    private static void each(String call, int[][] want, int[] figures, boolean price) {
        BowlsWithin x = new BowlsWithin();
        for (int k = 0; k < 8; k++) {
            for (int i = 0; i < figures.length; i++) {
                x.keep(5, 1, k, figures[i]);
                int got = price ? x.price(5) : x.toss(5);
                due.is(call + " of kind " + k + " with " + figures[i], got, want[k][i]);
            }
        }
        due.is(call + " of no shelf", price ? x.price(8) : x.toss(8), -1);
        due.is(call + " of no shelf below", price ? x.price(-1) : x.toss(-1), -1);
        due.is(call + " of nothing", price ? x.price(0) : x.toss(0), -11);
        x.row(0, 0, 1);
        due.is(call + " of a row", price ? x.price(0) : x.toss(0), -12);
    }
}
