/** The terms from LONGEST to LOAD, and promises 7 to 14. */
final class EdgesOfNests {
    /** Bits of bowls that three bowls, or nine, leave free. */
    private static final int[] FREE_OF_THREE = {8, 9, 15, 256, 512, -1, -8, Edges.MIN, Edges.MAX, Edges.MIN + 1};
    private static final int[] FREE_OF_NINE = {512, 513, 1023, 1 << 30, -1, -512, Edges.MIN, Edges.MAX};
    private static final int[] NO_WHAT = {-1, 2, 3, Edges.MIN, Edges.MAX};

    private final Edges e;

    EdgesOfNests(Edges e) {
        this.e = e;
    }

    void ask() {
        longestOfTerms();
        fewestOfTerms();
        apartOfTerms();
        carryOfTerms();
        loadOfTerms();
        lies();
        nest();
        height();
        longest();
        fewest();
        apart();
        carry();
        load();
    }

    private void longestIs(String text, int told, int nest) {
        BowlsWithin x = Due.heapOf(text);
        e.is("longest(" + told + ", 0) of " + text, x.longest(told, 0), nest);
        e.is("longest(" + told + ", 1) of " + text, x.longest(told, 1), Integer.bitCount(nest));
    }

    private void longestOfTerms() {
        e.says(Edges.TERMS, "LONGEST: of all NESTS of told BOWLS (bits) that with most BOWLS,");
        longestIs("b00010,99;b00012,99;b00050,1;", 7, 3);
        longestIs("b00011,99;b00012,99;b00050,1;", 7, 4);
        longestIs(Edges.NINE, 511, 511);
        longestIs(Edges.NINE, 510, 510);
        longestIs(Edges.NINE + "x;b00084,9;", 511, 255);
        longestIs("b00010,10;b01012,9;b00014,9;", 7, 7);
        longestIs("b00010,10;b01012,9;b00014,9;", 5, 4);
        e.says(Edges.TERMS, "of several that of the least HEIGHT, then the least as bits;");
        longestIs("b00010,10;b00010,9;", 3, 2);
        longestIs("b00010,9;b00010,9;", 3, 1);
        longestIs("b00010,9;b00010,10;", 3, 1);
        longestIs("b20010,9;b00010,9;b00020,9;", 7, 6);
        longestIs("b00010,9;b00010,9;b00020,9;", 7, 5);
        longestIs("b00010,9;b00020,10;b00020,9;b00020,9;", 15, 5);
        longestIs("b10010,9;b10110,9;b10120,9;b10020,9;", 15, 6);
        longestIs("b10010,9;b10110,9;b10120,9;b10020,8;b01020,8;", 15, 6);
        longestIs("b10010,8;b10110,9;b10120,9;b10020,8;", 15, 9);
        e.says(Edges.TERMS, "0 none are told.");
        longestIs("b0001,1;", 1, 1);
        longestIs("b00010,9;", 0, 0);
        longestIs("b00010,9;", 1, 1);
        longestIs(Edges.NINE, 0, 0);
    }

    private void fewestOfTerms() {
        e.says(Edges.TERMS, "FEWEST: the fewest NESTS in which all BOWLS are (each in one).");
        String[] texts = {
            "b00010,9;", "b00010,9;b00012,9;", "b00010,9;b00011,9;", Edges.NINE, Edges.NINE + "x;b00084,9;",
            "b0001,9;b0001,9;b0001,9;b0001,9;b0001,9;b0001,9;b0001,9;b0001,9;b0001,9;",
            "b00010,10;b01012,9;b00014,9;", "b00010,10;b01012,9;b00014,9;b01012,9;",
            "b00010,10;b00010,10;b01012,9;b00014,9;b00014,9;"
        };
        int[] want = {1, 1, 2, 1, 2, 9, 1, 2, 3};
        for (int i = 0; i < texts.length; i++) {
            e.is("fewest() of " + texts[i], Due.heapOf(texts[i]).fewest(), want[i]);
        }
    }

    private void apartIs(String text, int which) {
        BowlsWithin x = Due.heapOf(text);
        e.is("apart(0) of " + text, x.apart(0), Integer.bitCount(which));
        e.is("apart(1) of " + text, x.apart(1), which);
    }

    private void apartOfTerms() {
        e.says(Edges.TERMS, "APART: the most BOWLS of which none LIES IN another one;");
        apartIs("b00010,9;", 1);
        apartIs("b00010,9;b00011,9;", 3);
        apartIs("b0001,9;b0001,9;b0001,9;b0001,9;b0001,9;b0001,9;b0001,9;b0001,9;b0001,9;", 511);
        apartIs("b00010,10;b01012,9;b00014,9;", 5);
        apartIs("b00014,9;b00010,9;b00013,9;", 5);
        e.says(Edges.TERMS, "of several the least as bits.");
        apartIs("b00010,9;b00012,9;", 1);
        apartIs(Edges.NINE, 1);
        apartIs(Edges.NINE + "x;b00084,9;", 384);
        apartIs("b00010,9;b00010,9;b00012,9;b00012,9;", 3);
        apartIs("b00012,9;b00010,9;b00010,9;b00012,9;", 6);
    }

    private void carryOfTerms() {
        e.says(Edges.TERMS, "CARRY: the least sum of HEIGHTS of NESTS in which all BOWLS are (each in one).");
        String[] texts = {
            "b00010,9;", "b00010,99;", "b00010,9;b00012,9;", "b00010,9;b00011,9;", "b61010,3;b00020,9;",
            "b61010,4;b00020,9;", "b61010,5;b00020,9;", "b00010,10;b09020,1;", "b00010,11;b09020,1;",
            "b00010,9;b00010,9;b00012,9;", "b00010,9;b00010,5;b00012,9;", "b00010,10;b01012,9;b00014,9;", Edges.NINE
        };
        int[] want = {9, 99, 10, 18, 12, 13, 13, 2, 12, 19, 15, 11, 17};
        for (int i = 0; i < texts.length; i++) {
            e.is("carry() of " + texts[i], Due.heapOf(texts[i]).carry(), want[i]);
        }
    }

    private void loadOfTerms() {
        e.says(Edges.TERMS, "LOAD: the least number of NESTS whose HEIGHT is no more than h (1 .. 99) in which all are; "
            + "-4 it can't be.");
        BowlsWithin x = Due.heapOf("b00010,9;b00012,9;");
        e.is("load(10), as high as both", x.load(10), 1);
        e.is("load(9), as high as each", x.load(9), 2);
        e.is("load(8), a hair less", x.load(8), -4);
        e.is("load(99)", x.load(99), 1);
        e.is("load(1)", x.load(1), -4);
        x = Due.heapOf("b00010,99;b00012,99;");
        e.is("load(99), 100 high", x.load(99), 2);
        e.is("load(98), 99 high", x.load(98), -4);
        x = Due.heapOf("b00010,1;");
        e.is("load(1), 1 high", x.load(1), 1);
        x = Due.heapOf(Edges.NINE);
        e.is("load(17)", x.load(17), 1);
        e.is("load(16)", x.load(16), 2);
        e.is("load(13)", x.load(13), 2);
        e.is("load(12)", x.load(12), 3);
        e.is("load(11)", x.load(11), 3);
        e.is("load(10)", x.load(10), 5);
        e.is("load(9)", x.load(9), 9);
        e.is("load(8)", x.load(8), -4);
        x = Due.heapOf("b00010,10;b01012,9;b00014,9;");
        e.is("load(10), two of three", x.load(10), 2);
    }

    private void lies() {
        e.says(7, "Whether one LIES IN another one: 1, 0.");
        int[][] want = {{-1, 1, 1}, {0, -1, 1}, {0, 0, -1}};
        for (int one = 0; one <= 2; one++) {
            for (int other = 0; other <= 2; other++) {
                e.is("lies(" + one + ", " + other + ")", Edges.some().lies(one, other), want[one][other]);
            }
        }
        e.is("lies(8, 0) of nine", Edges.full().lies(8, 0), 1);
        e.is("lies(8, 7) of nine", Edges.full().lies(8, 7), 1);
        e.is("lies(7, 8) of nine", Edges.full().lies(7, 8), 0);
        BowlsWithin warm = Edges.full();
        warm.warm(1);
        e.is("lies(8, 7) at 1", warm.lies(8, 7), 0);
        e.says(7, "-1 (one twice, too).");
        int[][] wrong = {
            {0, 0}, {1, 1}, {2, 2}, {3, 3}, {-1, -1}, {3, 0}, {0, 3}, {-1, 0}, {0, -1}, {9, 0}, {0, 9}, {Edges.MAX, 0},
            {0, Edges.MAX}, {Edges.MIN, 1}, {1, Edges.MIN}
        };
        for (int[] w : wrong) {
            e.leaves("lies(" + w[0] + ", " + w[1] + ")", Edges::some, x -> x.lies(w[0], w[1]), -1);
        }
        e.leaves("lies(8, 9) of nine", Edges::full, x -> x.lies(8, 9), -1);
        e.leaves("lies(0, 1) of none", BowlsWithin::new, x -> x.lies(0, 1), -1);
    }

    private void nest() {
        e.says(8, "Whether BOWLS (bits) are a NEST: 1, 0.");
        int[] want = {0, 1, 1, 1, 1, 1, 1, 1};
        for (int bits = 0; bits < 8; bits++) {
            e.is("nest(" + bits + ")", Edges.some().nest(bits), want[bits]);
        }
        BowlsWithin x = Edges.some();
        x.warm(9);
        int[] warm = {0, 1, 1, 0, 1, 1, 1, 0};
        for (int bits = 0; bits < 8; bits++) {
            e.is("nest(" + bits + ") at 9", x.nest(bits), warm[bits]);
        }
        e.is("nest(256) of nine", Edges.full().nest(256), 1);
        e.is("nest(511) of nine", Edges.full().nest(511), 1);
        e.says(8, "-1 (bits of BOWLS that there are not).");
        for (int bits : FREE_OF_THREE) {
            e.leaves("nest(" + bits + ") of three", Edges::some, y -> y.nest(bits), -1);
        }
        for (int bits : FREE_OF_NINE) {
            e.leaves("nest(" + bits + ") of nine", Edges::full, y -> y.nest(bits), -1);
        }
        e.leaves("nest(1) of none", BowlsWithin::new, y -> y.nest(1), -1);
    }

    private void height() {
        e.says(9, "HEIGHT.");
        int[] want = {-3, 9, 9, 10, 8, 9, 9, 10};
        for (int bits = 0; bits < 8; bits++) {
            e.is("height(" + bits + ")", Edges.some().height(bits), want[bits]);
        }
        e.is("height(256) of nine", Edges.full().height(256), 9);
        e.is("height(511) of nine", Edges.full().height(511), 17);
        e.says(9, "-1 likewise, -3 they are no NEST.");
        for (int bits : FREE_OF_THREE) {
            e.leaves("height(" + bits + ") of three", Edges::some, y -> y.height(bits), -1);
        }
        for (int bits : FREE_OF_NINE) {
            e.leaves("height(" + bits + ") of nine", Edges::full, y -> y.height(bits), -1);
        }
        e.leaves("height(0) of three", Edges::some, y -> y.height(0), -3);
        e.leaves("height(0) of none", BowlsWithin::new, y -> y.height(0), -3);
        e.leaves("height(1) of none", BowlsWithin::new, y -> y.height(1), -1);
        e.leaves("height(3), too near", () -> Due.heapOf("b00010,9;b00011,9;"), y -> y.height(3), -3);
        e.leaves("height(7), too near and no such bowl", () -> Due.heapOf("b00010,9;b00011,9;"), y -> y.height(7), -1);
        e.leaves("height(3), as near as can be", () -> Due.heapOf("b00010,9;b00012,9;"), y -> y.height(3), 10);
    }

    private void longest() {
        e.says(10, "LONGEST of BOWLS: the NEST (what 0), how many (1).");
        int[] nests = {0, 1, 2, 3, 4, 5, 6, 7};
        for (int bits = 0; bits < 8; bits++) {
            e.is("longest(" + bits + ", 0)", Edges.some().longest(bits, 0), nests[bits]);
            e.is("longest(" + bits + ", 1)", Edges.some().longest(bits, 1), Integer.bitCount(nests[bits]));
        }
        e.is("longest(511, 0) of nine", Edges.full().longest(511, 0), 511);
        e.is("longest(511, 1) of nine", Edges.full().longest(511, 1), 9);
        BowlsWithin warmer = Due.heapOf("b00010,9;b00012,9;");
        e.is("longest(3, 0) when cold", warmer.longest(3, 0), 3);
        warmer.warm(1);
        e.is("longest(3, 0) when warmer", warmer.longest(3, 0), 1);
        Due.told(warmer, "w0;x;");
        e.is("longest(1, 0) when one is none", warmer.longest(1, 0), 1);
        e.is("longest(0, 0) of none", new BowlsWithin().longest(0, 0), 0);
        e.is("longest(0, 1) of none", new BowlsWithin().longest(0, 1), 0);
        e.says(10, "-1 likewise.");
        for (int what = 0; what <= 1; what++) {
            int w = what;
            for (int bits : FREE_OF_THREE) {
                e.leaves("longest(" + bits + ", " + w + ") of three", Edges::some, x -> x.longest(bits, w), -1);
            }
            for (int bits : FREE_OF_NINE) {
                e.leaves("longest(" + bits + ", " + w + ") of nine", Edges::full, x -> x.longest(bits, w), -1);
            }
            e.leaves("longest(1, " + w + ") of none", BowlsWithin::new, x -> x.longest(1, w), -1);
        }
        for (int what : NO_WHAT) {
            e.leaves("longest(7, " + what + ")", Edges::some, x -> x.longest(7, what), -1);
            e.leaves("longest(0, " + what + ")", Edges::some, x -> x.longest(0, what), -1);
        }
    }

    private void fewest() {
        e.says(11, "FEWEST.");
        e.leaves("fewest() of none", BowlsWithin::new, x -> x.fewest(), 0);
        e.leaves("fewest() of three", Edges::some, x -> x.fewest(), 1);
        e.leaves("fewest() of nine", Edges::full, x -> x.fewest(), 1);
        BowlsWithin x = Edges.full();
        int[] want = {1, 2, 2, 3, 3, 4, 4, 5, 5, 6};
        for (int v = 9; v >= 0; v--) {
            x.warm(v);
            e.is("fewest() of nine at " + v, x.fewest(), want[v]);
        }
    }

    private void apart() {
        e.says(12, "APART: how many (what 0), which (1, bits).");
        for (int what = 0; what <= 1; what++) {
            int w = what;
            e.leaves("apart(" + w + ") of none", BowlsWithin::new, x -> x.apart(w), 0);
            e.leaves("apart(" + w + ") of three", Edges::some, x -> x.apart(w), 1);
            e.leaves("apart(" + w + ") of two", () -> Due.heapOf("b00010,9;b00011,9;"), x -> x.apart(w), 2 + w);
        }
        BowlsWithin x = Edges.full();
        int[] want = {1, 2, 2, 3, 3, 4, 4, 5, 5, 6};
        for (int v = 0; v <= 9; v++) {
            x.warm(v);
            e.is("apart(0) of nine at " + v, x.apart(0), want[v]);
            e.is("apart(1) of nine at " + v, x.apart(1), (1 << want[v]) - 1);
        }
        e.says(12, "-1.");
        for (int what : NO_WHAT) {
            e.leaves("apart(" + what + ")", Edges::some, y -> y.apart(what), -1);
            e.leaves("apart(" + what + ") of none", BowlsWithin::new, y -> y.apart(what), -1);
        }
    }

    private void carry() {
        e.says(13, "CARRY.");
        e.leaves("carry() of none", BowlsWithin::new, x -> x.carry(), 0);
        e.leaves("carry() of three", Edges::some, x -> x.carry(), 10);
        e.leaves("carry() of nine", Edges::full, x -> x.carry(), 17);
        BowlsWithin x = Edges.full();
        int[] want = {17, 25, 25, 33, 33, 41, 41, 49, 49, 57};
        for (int v = 0; v <= 9; v++) {
            x.warm(v);
            e.is("carry() of nine at " + v, x.carry(), want[v]);
        }
        e.is("carry() of nine apart", Due.heapOf(
            "b0001,99;b0001,99;b0001,99;b0001,99;b0001,99;b0001,99;b0001,99;b0001,99;b0001,99;").carry(), 891);
    }

    private void load() {
        e.says(14, "LOAD; -4.");
        e.leaves("load(1) of none", BowlsWithin::new, x -> x.load(1), 0);
        e.leaves("load(99) of none", BowlsWithin::new, x -> x.load(99), 0);
        e.leaves("load(10) of three", Edges::some, x -> x.load(10), 1);
        e.leaves("load(9) of three", Edges::some, x -> x.load(9), 2);
        e.leaves("load(8) of three", Edges::some, x -> x.load(8), -4);
        e.leaves("load(1) of three", Edges::some, x -> x.load(1), -4);
        e.leaves("load(99) of three", Edges::some, x -> x.load(99), 1);
        e.says(14, "-1.");
        int[] wrong = {0, 100, -1, Edges.MIN, Edges.MAX};
        for (int h : wrong) {
            e.leaves("load(" + h + ")", Edges::some, x -> x.load(h), -1);
            e.leaves("load(" + h + ") of none", BowlsWithin::new, x -> x.load(h), -1);
        }
    }
}
