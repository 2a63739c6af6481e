/** Promises 27 to 33: keep, row, put, element, copy, price, toss. */
final class EdgesOfShelves {
    private static final int[] NO_SHELF = {-1, 8, Edges.MIN, Edges.MAX};

    private final Edges e;

    EdgesOfShelves(Edges e) {
        this.e = e;
    }

    void ask() {
        keep();
        keepRefused();
        row();
        rowRefused();
        put();
        putRefused();
        element();
        copy();
        copyInItself();
        copyNothing();
        copyRefused();
        copyNoPlace();
        price();
        toss();
        tossNone();
    }

    private void keep() {
        e.says(27, "SHELF d gets: what = 0 nothing (the others do not matter); 1 a BOWL of KIND k with a FIGURE: 0.");
        int[] wild = {0, -1, 8, 10, Edges.MIN, Edges.MAX};
        for (int d = 0; d <= 7; d++) {
            for (int other : wild) {
                BowlsWithin x = Edges.some();
                e.is("keep(" + d + ", 0, " + other + ", " + other + ")", x.keep(d, 0, other, other), 0);
                e.is("price(" + d + ") of nothing", x.price(d), -11);
                e.is("judge(" + d + ") of nothing", x.judge(d), -11);
            }
        }
        for (int d = 0; d <= 7; d++) {
            BowlsWithin x = Edges.some();
            e.is("keep(" + d + ", 1, 0, 0)", x.keep(d, 1, 0, 0), 0);
            e.is("price(" + d + ")", x.price(d), 4);
            e.is("toss(" + d + ")", x.toss(d), -15);
            e.is("keep(" + d + ", 1, 7, 9)", x.keep(d, 1, 7, 9), 0);
            e.is("price(" + d + ")", x.price(d), 30);
            e.is("toss(" + d + ")", x.toss(d), 230);
            e.is("judge(" + d + ")", x.judge(d), -12);
            e.is("comes by it", x.comes(d, 99, 9, 0), 3);
            e.is("its kind", x.bowl(3, 0), 7);
            e.is("its figure", x.bowl(3, 1), 9);
        }
    }

    private void keepRefused() {
        e.says(27, "-1.");
        for (int shelf : NO_SHELF) {
            e.leaves("keep(" + shelf + ", 0, 0, 0)", Edges::some, x -> x.keep(shelf, 0, 0, 0), -1);
            e.leaves("keep(" + shelf + ", 1, 0, 0)", Edges::some, x -> x.keep(shelf, 1, 0, 0), -1);
        }
        for (int d = 0; d <= 6; d++) {
            int shelf = d;
            int[][] wrong = {
                {-1, 0, 0}, {2, 0, 0}, {Edges.MIN, 0, 0}, {Edges.MAX, 0, 0}, {1, -1, 0}, {1, 8, 0}, {1, 0, -1}, {1, 0, 10},
                {1, Edges.MAX, 0}, {1, 0, Edges.MIN}
            };
            for (int[] w : wrong) {
                e.leaves("keep(" + d + ", " + w[0] + ", " + w[1] + ", " + w[2] + ")", Edges::some,
                    x -> x.keep(shelf, w[0], w[1], w[2]), -1);
            }
        }
    }

    private void row() {
        e.says(28, "SHELF d gets a ROW of a SORT: 0.");
        for (int d = 0; d <= 7; d++) {
            for (int sort = 0; sort <= 2; sort++) {
                BowlsWithin x = Edges.some();
                e.is("row(" + d + ", " + sort + ", 2)", x.row(d, sort, 2), 0);
                e.is("its first", Edges.element(x, d, 0), 0);
                e.is("its last", Edges.element(x, d, 1), 0);
                e.is("behind it", Edges.element(x, d, 2), Edges.NO_ELEMENT);
                x.put(d, 1, 0x12345678);
                e.is("what is left in sort " + sort, Edges.element(x, d, 1),
                    new long[] {0x78, 0x5678, 0x12345678}[sort]);
                e.is("row(" + d + ", " + sort + ", 0)", x.row(d, sort, 0), 0);
                e.is("none", Edges.element(x, d, 0), Edges.NO_ELEMENT);
                e.is("a row still", x.price(d), -12);
                e.is("row(" + d + ", " + sort + ", 100)", x.row(d, sort, 100), 0);
                e.is("0 once more", Edges.element(x, d, 1), 0);
                e.is("the hundredth", Edges.element(x, d, 99), 0);
                e.is("no more", Edges.element(x, d, 100), Edges.NO_ELEMENT);
            }
        }
    }

    private void rowRefused() {
        e.says(28, "-1 (n above 100); -14.");
        for (int shelf : NO_SHELF) {
            e.leaves("row(" + shelf + ", 0, 0)", Edges::some, x -> x.row(shelf, 0, 0), -1);
            e.leaves("row(" + shelf + ", 0, -1)", Edges::some, x -> x.row(shelf, 0, -1), -1);
        }
        for (int d = 0; d <= 6; d++) {
            int shelf = d;
            int[][] wrong = {
                {-1, 2, -1}, {3, 2, -1}, {Edges.MIN, 0, -1}, {Edges.MAX, 0, -1}, {0, 101, -1}, {1, 101, -1}, {2, 101, -1},
                {2, Edges.MAX, -1}, {-1, -1, -1}, {3, -1, -1}, {3, 101, -1}, {0, -1, -14}, {1, -1, -14}, {2, -1, -14},
                {2, Edges.MIN, -14}
            };
            for (int[] w : wrong) {
                e.leaves("row(" + d + ", " + w[0] + ", " + w[1] + ")", Edges::some, x -> x.row(shelf, w[0], w[1]), w[2]);
            }
        }
    }

    private void put() {
        e.says(29, "Element i of the ROW becomes v: 0.");
        for (int d = 0; d <= 7; d++) {
            for (int sort = 0; sort <= 2; sort++) {
                BowlsWithin x = new BowlsWithin();
                x.row(d, sort, 100);
                int[] places = {0, 1, 98, 99};
                for (int i : places) {
                    e.is("put(" + d + ", " + i + ", " + (i + 1) + ")", x.put(d, i, i + 1), 0);
                }
                for (int i : places) {
                    e.is("element(" + d + ", " + i + ")", Edges.element(x, d, i), i + 1);
                }
                e.is("between", Edges.element(x, d, 50), 0);
                e.is("put(" + d + ", 99, -1)", x.put(d, 99, -1), 0);
                e.is("element(" + d + ", 99) then", Edges.element(x, d, 99), -1);
            }
        }
    }

    private void putRefused() {
        e.says(29, "-1, -11, -12, -13.");
        for (int shelf : NO_SHELF) {
            e.leaves("put(" + shelf + ", 0, 0)", Edges::some, x -> x.put(shelf, 0, 9), -1);
            e.leaves("put(" + shelf + ", -1, 0)", Edges::some, x -> x.put(shelf, -1, 9), -1);
        }
        int[] places = {-1, 0, 100, Edges.MIN, Edges.MAX};
        for (int i : places) {
            e.leaves("put(5, " + i + ", 9) on nothing", Edges::some, x -> x.put(5, i, 9), -11);
            e.leaves("put(1, " + i + ", 9) on a bowl", Edges::some, x -> x.put(1, i, 9), -12);
            e.leaves("put(6, " + i + ", 9) in an empty row", Edges::some, x -> x.put(6, i, 9), -13);
        }
        int[][] wrong = {{2, 2}, {3, 2}, {4, 3}, {4, -1}, {4, 99}, {4, 100}, {4, Edges.MIN}, {4, Edges.MAX}};
        for (int[] w : wrong) {
            e.leaves("put(" + w[0] + ", " + w[1] + ", 9)", Edges::some, x -> x.put(w[0], w[1], 9), -13);
        }
        e.is("put(4, 2, 9), the last place", Edges.some().put(4, 2, 9), 0);
        BowlsWithin x = Edges.some();
        x.row(4, 2, 100);
        x.row(4, 2, 1);
        e.is("put(4, 1, 9) behind a row that is shorter now", x.put(4, 1, 9), -13);
    }

    private void thrown(int d, int i, long want) {
        e.leaves("element(" + d + ", " + i + ")", Edges::some, x -> Edges.element(x, d, i), want);
    }

    private void element() {
        e.says(30, "Element i of the ROW.");
        thrown(3, 0, 300);
        thrown(3, 1, -2);
        thrown(4, 0, 70000);
        thrown(4, 2, 6);
        thrown(0, 0, 'b');
        thrown(0, 11, ';');
        BowlsWithin y = new BowlsWithin();
        Due.list(y, 7, 2, Edges.MIN, Edges.MAX);
        e.is("the least int", Edges.element(y, 7, 0), Edges.MIN);
        e.is("the greatest int", Edges.element(y, 7, 1), Edges.MAX);
        e.says(30, "IllegalArgumentException: no such SHELF; IllegalStateException: no ROW, no such place.");
        for (int d : NO_SHELF) {
            thrown(d, 0, Edges.NO_SHELF);
            thrown(d, -1, Edges.NO_SHELF);
        }
        int[] places = {-1, 0, 100, Edges.MIN, Edges.MAX};
        for (int i : places) {
            thrown(5, i, Edges.NO_ELEMENT);
            thrown(1, i, Edges.NO_ELEMENT);
            thrown(6, i, Edges.NO_ELEMENT);
            thrown(7, i, Edges.NO_ELEMENT);
        }
        int[][] behind = {{0, 12}, {2, 2}, {3, 2}, {4, 3}, {4, -1}, {4, Edges.MIN}, {4, Edges.MAX}};
        for (int[] b : behind) {
            thrown(b[0], b[1], Edges.NO_ELEMENT);
        }
    }

    /** Rows of five and three elements on shelves 0 and 1. */
    private static BowlsWithin rows(int sort) {
        BowlsWithin x = new BowlsWithin();
        Due.list(x, 0, sort, 1, 2, 3, 4, 5);
        Due.list(x, 1, sort, 6, 7, 8);
        return x;
    }

    private void holds(BowlsWithin x, int d, int... want) {
        for (int i = 0; i < want.length; i++) {
            e.is("element(" + d + ", " + i + ")", Edges.element(x, d, i), want[i]);
        }
        e.is("element(" + d + ", " + want.length + ")", Edges.element(x, d, want.length), Edges.NO_ELEMENT);
    }

    private void copy() {
        e.says(31, "n elements of the ROW in SHELF d from i on come to that in SHELF e from j on: n.");
        for (int sort = 0; sort <= 2; sort++) {
            BowlsWithin x = rows(sort);
            e.is("copy(0, 2, 1, 0, 3)", x.copy(0, 2, 1, 0, 3), 3);
            holds(x, 0, 1, 2, 3, 4, 5);
            holds(x, 1, 3, 4, 5);
            e.is("copy(1, 2, 0, 4, 1)", x.copy(1, 2, 0, 4, 1), 1);
            e.is("copy(0, 0, 1, 2, 1)", x.copy(0, 0, 1, 2, 1), 1);
            holds(x, 1, 3, 4, 1);
            holds(x, 0, 1, 2, 3, 4, 5);
            e.is("copy(1, 0, 0, 2, 3)", x.copy(1, 0, 0, 2, 3), 3);
            holds(x, 0, 1, 2, 3, 4, 1);
        }
        BowlsWithin x = new BowlsWithin();
        x.row(6, 0, 100);
        x.row(7, 0, 100);
        x.put(6, 0, 3);
        x.put(6, 99, 4);
        e.is("copy(6, 0, 7, 0, 100)", x.copy(6, 0, 7, 0, 100), 100);
        e.is("the first of a hundred", Edges.element(x, 7, 0), 3);
        e.is("the last of a hundred", Edges.element(x, 7, 99), 4);
        e.is("copy(6, 0, 7, 0, 101)", x.copy(6, 0, 7, 0, 101), -13);
    }

    private void copyInItself() {
        BowlsWithin x = rows(1);
        e.is("up in itself", x.copy(0, 0, 0, 1, 4), 4);
        holds(x, 0, 1, 1, 2, 3, 4);
        x = rows(1);
        e.is("down in itself", x.copy(0, 1, 0, 0, 4), 4);
        holds(x, 0, 2, 3, 4, 5, 5);
        x = rows(1);
        e.is("on itself", x.copy(0, 0, 0, 0, 5), 5);
        holds(x, 0, 1, 2, 3, 4, 5);
        e.is("too far up in itself", x.copy(0, 0, 0, 1, 5), -13);
        holds(x, 0, 1, 2, 3, 4, 5);
    }

    private void copyNothing() {
        int[][] nothing = {{0, 0}, {5, 0}, {0, 3}, {5, 3}, {2, 1}};
        for (int[] n : nothing) {
            e.leaves("copy(0, " + n[0] + ", 1, " + n[1] + ", 0)", () -> rows(2), x -> x.copy(0, n[0], 1, n[1], 0), 0);
        }
    }

    private void copyRefused() {
        e.says(31, "-1, -11 (either), -12 (no ROWS of one SORT),");
        int[] any = {1, 2, 5};
        for (int shelf : NO_SHELF) {
            for (int other : any) {
                e.leaves("copy(" + shelf + ", 0, " + other + ", 0, 1)", Edges::some, x -> x.copy(shelf, 0, other, 0, 1), -1);
                e.leaves("copy(" + other + ", 0, " + shelf + ", 0, 1)", Edges::some, x -> x.copy(other, 0, shelf, 0, 1), -1);
            }
            e.leaves("copy(" + shelf + ", -1, " + shelf + ", -1, -1)", Edges::some, x -> x.copy(shelf, -1, shelf, -1, -1), -1);
        }
        int[] places = {0, -1, 100};
        for (int i : places) {
            for (int d = 0; d <= 7; d++) {
                int other = d;
                e.leaves("copy(5, " + i + ", " + d + ", 0, 1)", Edges::some, x -> x.copy(5, i, other, 0, 1), -11);
                e.leaves("copy(" + d + ", 0, 5, " + i + ", 1)", Edges::some, x -> x.copy(other, 0, 5, i, 1), -11);
            }
            int[][] kinds = {{1, 2}, {2, 1}, {1, 1}, {2, 3}, {3, 2}, {3, 4}, {4, 3}, {2, 4}, {4, 2}, {2, 6}, {6, 2}, {1, 6}};
            for (int[] k : kinds) {
                e.leaves("copy(" + k[0] + ", " + i + ", " + k[1] + ", 0, 1)", Edges::some, x -> x.copy(k[0], i, k[1], 0, 1), -12);
                e.leaves("copy(" + k[0] + ", 0, " + k[1] + ", " + i + ", -1)", Edges::some,
                    x -> x.copy(k[0], 0, k[1], i, -1), -12);
            }
        }
    }

    private void copyNoPlace() {
        e.says(31, "-13 (n below 0, too).");
        int[][] wrong = {
            {-1, 0, 1}, {0, -1, 1}, {0, 0, -1}, {3, 0, 3}, {0, 1, 3}, {0, 0, 4}, {6, 0, 0}, {0, 4, 0}, {-1, 0, 0}, {0, -1, 0},
            {5, 0, 1}, {0, 3, 1}, {1, 1, -1}, {5, 3, -1}, {6, 4, -1}, {Edges.MAX, 0, 1}, {0, Edges.MAX, 1}, {0, 0, Edges.MAX},
            {1, 1, Edges.MAX}, {Edges.MAX, Edges.MAX, Edges.MAX}, {0, 0, Edges.MIN}, {Edges.MIN, 0, 1}, {0, Edges.MIN, 1},
            {Edges.MIN, Edges.MIN, Edges.MIN}, {Edges.MAX, 0, Edges.MIN}, {Edges.MIN, 0, Edges.MAX}
        };
        for (int[] w : wrong) {
            e.leaves("copy(0, " + w[0] + ", 1, " + w[1] + ", " + w[2] + ")", () -> rows(2),
                x -> x.copy(0, w[0], 1, w[1], w[2]), -13);
        }
        e.leaves("copy(1, 0, 0, 0, 4), more than there is", () -> rows(2), x -> x.copy(1, 0, 0, 0, 4), -13);
        e.leaves("copy(6, 0, 4, 0, 1), from an empty row", Edges::some, x -> x.copy(6, 0, 4, 0, 1), -13);
        e.leaves("copy(4, 0, 6, 0, 1), to an empty row", Edges::some, x -> x.copy(4, 0, 6, 0, 1), -13);
        e.leaves("copy(4, 0, 6, 0, 0), nothing to an empty row", Edges::some, x -> x.copy(4, 0, 6, 0, 0), 0);
    }

    /** What a call answers that wants a bowl on a shelf, where there is none. */
    private void wantsBowl(String name, boolean price) {
        for (int d : NO_SHELF) {
            e.leaves(name + "(" + d + ")", Edges::some, x -> price ? x.price(d) : x.toss(d), -1);
        }
        int[] nothing = {5, 7};
        for (int d : nothing) {
            e.leaves(name + "(" + d + ") of nothing", Edges::some, x -> price ? x.price(d) : x.toss(d), -11);
        }
        int[] rows = {0, 2, 3, 4, 6};
        for (int d : rows) {
            e.leaves(name + "(" + d + ") of a row", Edges::some, x -> price ? x.price(d) : x.toss(d), -12);
        }
    }

    private void price() {
        e.says(32, "PRICE of the BOWL on SHELF d.");
        for (int d = 0; d <= 7; d++) {
            BowlsWithin x = Edges.some();
            x.keep(d, 1, 7, 9);
            e.is("price(" + d + ") of the dearest", x.price(d), 30);
            x.keep(d, 1, 5, 9);
            e.is("price(" + d + ") of the cheapest", x.price(d), -1);
        }
        e.says(32, "-1, -11, -12 (a ROW).");
        wantsBowl("price", true);
    }

    private void tossed(int kind, int figure, int want) {
        for (int d = 0; d <= 7; d += 7) {
            BowlsWithin x = Edges.some();
            x.keep(d, 1, kind, figure);
            e.is("toss(" + d + ") of kind " + kind + ", figure " + figure, x.toss(d), want);
            e.is("toss(" + d + ") again", x.toss(d), want);
        }
    }

    private void toss() {
        e.says(33, "The FAILURE of the BOWL on SHELF d is thrown, and caught: its FIGURE;");
        int[] plain = {0, 1, 2, 3, 6};
        for (int kind : plain) {
            tossed(kind, 1, 1);
            tossed(kind, 9, 9);
        }
        e.says(33, "of GLUED ones 100 more;");
        tossed(5, 1, 101);
        tossed(5, 9, 109);
        e.says(33, "of FLAT ones 200 plus their PRICE, in place of all that (FIGURE, too).");
        tossed(7, 1, 206);
        tossed(7, 9, 230);
        e.says(33, "-1, -11, -12 (a ROW);");
        wantsBowl("toss", false);
    }

    private void tossNone() {
        e.says(33, "-15: SECOND ones, and any with FIGURE 0, have none.");
        for (int kind = 0; kind <= 7; kind++) {
            tossed(kind, 0, -15);
            int k = kind;
            e.leaves("toss(1) of kind " + k + ", figure 0", () -> kept(k, 0), x -> x.toss(1), -15);
        }
        for (int figure = 0; figure <= 9; figure++) {
            tossed(4, figure, -15);
            int f = figure;
            e.leaves("toss(1) of a second one, figure " + f, () -> kept(4, f), x -> x.toss(1), -15);
        }
    }

    private static BowlsWithin kept(int kind, int figure) {
        BowlsWithin x = Edges.some();
        x.keep(1, 1, kind, figure);
        return x;
    }
}
