/** The term THE IMAGE, and promises 24 to 26. */
final class EdgesOfImage {
    private final Edges e;

    EdgesOfImage(Edges e) {
        this.e = e;
    }

    void ask() {
        allThatThereIs();
        butShelves();
        image();
        restore();
        count();
        countRefused();
    }

    private void holds(BowlsWithin x, int bowl, int... want) {
        for (int what = 0; what < want.length; what++) {
            e.is("bowl(" + bowl + ", " + what + ")", x.bowl(bowl, what), want[what]);
        }
    }

    private void allThatThereIs() {
        e.says(Edges.TERMS, "THE IMAGE: all that there is, but SHELVES (and THE IMAGE); RESTORED all is as it was then.");
        String[] changes = {"x;", "x;x;", "t0;", "t1;", "w0;", "w9;", "b60077,77;", "x;b60077,77;", "x;x;b00199,1;b79199,9;w3;"};
        for (String change : changes) {
            BowlsWithin x = Due.heapOf("b17110,9;b34020,8;w5;");
            e.is("image()", x.image(), 2);
            Due.told(x, change);
            e.is("restore() after " + change, x.restore(), 2);
            holds(x, 0, 1, 7, 1, 10, 9, 17, 10, 1);
            holds(x, 1, 3, 4, 0, 20, 8, 20, 12, 5);
            holds(x, 2, -1);
            e.is("warmth", x.count(1), 5);
        }
        BowlsWithin nine = Due.heapOf(Edges.NINE + "w9;");
        nine.image();
        Due.told(nine, "x;x;x;x;x;x;x;x;x;w0;");
        e.is("restore() of nine", nine.restore(), 9);
        e.is("the ninth", nine.bowl(8, 3), 83);
        e.is("the first", nine.bowl(0, 3), 99);
        e.is("warmth of nine", nine.count(1), 9);
        e.is("no room in nine", Due.told(nine, "b0001,1;"), -2000);
    }

    private void butShelves() {
        BowlsWithin x = Edges.some();
        x.image();
        x.keep(1, 0, 0, 0);
        x.keep(5, 1, 7, 9);
        x.put(3, 0, 7);
        x.row(4, 1, 1);
        e.is("restore() when shelves are others", x.restore(), 3);
        e.is("price(1)", x.price(1), -11);
        e.is("price(5)", x.price(5), 30);
        e.is("element(3, 0)", Edges.element(x, 3, 0), 7);
        e.is("element(4, 1)", Edges.element(x, 4, 1), Edges.NO_ELEMENT);
        x = Edges.some();
        e.is("the image stays when restored", x.restore(), 2);
        Due.told(x, "x;w9;");
        e.is("restore() once more", x.restore(), 2);
        e.is("warmth once more", x.count(1), 3);
    }

    private void image() {
        e.says(24, "THE IMAGE is taken: how many BOWLS.");
        e.is("image() of none", new BowlsWithin().image(), 0);
        e.is("image() of one", Due.heapOf("b0009,9;").image(), 1);
        BowlsWithin x = Edges.full();
        e.is("image() of nine", x.image(), 9);
        Due.told(x, "x;");
        e.is("image() of eight", x.image(), 8);
        Due.told(x, "x;");
        e.is("the later one is restored", x.restore(), 8);
        x = Edges.some();
        e.is("image() of three", x.image(), 3);
        holds(x, 2, 3, 4, 0, 30, 8);
        e.is("warmth stays", x.count(1), 1);
        e.is("restore() at once", x.restore(), 3);
        e.is("warmth stays restored", x.count(1), 1);
    }

    private void restore() {
        e.says(25, "THE IMAGE is RESTORED: how many BOWLS.");
        BowlsWithin x = new BowlsWithin();
        x.image();
        Due.told(x, Edges.NINE + "w9;");
        e.is("restore() of none", x.restore(), 0);
        e.is("count(0)", x.count(0), 0);
        e.is("count(1)", x.count(1), 0);
        x = Due.heapOf(Edges.NINE);
        x.image();
        Due.told(x, "x;");
        e.is("restore() of nine", x.restore(), 9);
        e.is("count(0) of nine", x.count(0), 9);
        e.says(25, "-3: there is none.");
        e.leaves("restore() at first", BowlsWithin::new, y -> y.restore(), -3);
        e.leaves("restore() of nine without an image", Edges::full, y -> y.restore(), -3);
        BowlsWithin other = Edges.some();
        BowlsWithin later = new BowlsWithin();
        e.is("another object's image", other.restore(), 2);
        e.is("none of its own", later.restore(), -3);
    }

    private void count() {
        e.says(26, "0 BOWLS, 1 WARMTH, 2 pairs of which one LIES IN the other, 3 all DEPTHS;");
        int[] none = {0, 0, 0, 0};
        int[] some = {3, 1, 3, 26};
        int[] nine = {9, 0, 36, 81};
        for (int what = 0; what <= 3; what++) {
            int w = what;
            e.leaves("count(" + w + ") of none", BowlsWithin::new, x -> x.count(w), none[w]);
            e.leaves("count(" + w + ") of three", Edges::some, x -> x.count(w), some[w]);
            e.leaves("count(" + w + ") of nine", Edges::full, x -> x.count(w), nine[w]);
        }
        e.is("a pair just wide enough", Due.heapOf("b00010,9;b00012,9;").count(2), 1);
        e.is("the other way round", Due.heapOf("b00012,9;b00010,9;").count(2), 1);
        e.is("a pair a hair too near", Due.heapOf("b00010,9;b00011,9;").count(2), 0);
        e.is("pairs, though not of neighbours", Due.heapOf("b00010,10;b01012,9;b00014,9;").count(2), 2);
        e.is("no pair with one that is none", Due.heapOf("b00010,9;b00012,9;x;").count(2), 0);
        e.is("no depth of one that is none", Due.heapOf("b00010,9;b00012,9;x;").count(3), 9);
        e.is("one as deep as can be", Due.heapOf("b0009,99;").count(3), 99);
        e.is("nine as deep as can be", Due.heapOf(
            "b0009,99;b0009,99;b0009,99;b0009,99;b0009,99;b0009,99;b0009,99;b0009,99;b0009,99;").count(3), 891);
        e.is("depths without figures", Due.heapOf("b6919,1;").count(3), 1);
        e.is("warmth at most", Due.heapOf("w9;").count(1), 9);
    }

    private void countRefused() {
        e.says(26, "-1 for others.");
        int[] others = {-1, 4, Edges.MIN, Edges.MAX};
        for (int what : others) {
            e.leaves("count(" + what + ")", Edges::some, x -> x.count(what), -1);
            e.leaves("count(" + what + ") of none", BowlsWithin::new, x -> x.count(what), -1);
        }
    }
}
