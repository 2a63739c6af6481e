/** The terms WHOLE, THROWN, HELPS, and promises 15 to 17. */
final class EdgesOfSets {
    private final Edges e;

    EdgesOfSets(Edges e) {
        this.e = e;
    }

    void ask() {
        wholeOfTerms();
        thrownOfTerms();
        thrownByWidth();
        thrownByDepth();
        helpsOfTerms();
        helpsMost();
        whole();
        throwsNew();
        helps();
    }

    private void wholeOfTerms() {
        e.says(Edges.TERMS, "WHOLE: how many NESTS of just k BOWLS (1 .. 9) there can be at once (no BOWL in two).");
        int[] ofNine = {9, 4, 3, 2, 1, 1, 1, 1, 1};
        int[] ofEight = {8, 4, 2, 2, 1, 1, 1, 1, 0};
        for (int k = 1; k <= 9; k++) {
            e.is("whole(" + k + ") of nine", Due.heapOf(Edges.NINE).whole(k), ofNine[k - 1]);
            e.is("whole(" + k + ") of eight", Due.heapOf(Edges.NINE + "x;").whole(k), ofEight[k - 1]);
        }
        e.is("as shallow as can be", Due.heapOf("b0001,1;").whole(1), 1);
        e.is("just wide enough", Due.heapOf("b00010,9;b00012,9;").whole(2), 1);
        e.is("a hair too near", Due.heapOf("b00010,9;b00011,9;").whole(2), 0);
        e.is("no bowl in two", Due.heapOf("b00010,9;b00012,9;b00014,9;").whole(2), 1);
        e.is("not in two of four", Due.heapOf("b00010,9;b00012,9;b00014,9;b00016,9;").whole(2), 2);
        e.is("the shallow one left for the shallow", Due.heapOf("b00010,5;b00020,9;b00010,9;b00020,6;").whole(2), 2);
        BowlsWithin x = Due.heapOf("b00010,10;b01012,9;b00014,9;");
        e.is("three as one", x.whole(3), 1);
        e.is("two of three", x.whole(2), 1);
        x = Due.heapOf("b00010,10;b01012,9;b00014,9;t0;x;x;b00014,9;");
        e.is("just two, not three less one", x.whole(2), 0);
    }

    private void thrown(String text, int want) {
        e.is("throwsNew() of " + text, Due.heapOf(text).throwsNew(), want);
    }

    private void thrownOfTerms() {
        e.says(Edges.TERMS, "THROWN: the fewest new BOWLS (0 .. 2; KIND 0, FIGURE 0, TURN 0, any WIDTHS,");
        thrown("b00010,9;", 0);
        thrown("b00010,9;b00012,9;", 0);
        thrown("b00010,9;b00011,9;", -4);
        thrown(Edges.NINE, 0);
        thrown(Edges.NINE + "x;b00084,9;", -4);
        thrown("b10010,9;b10014,9;", 0);
        thrown("b10010,9;b10114,9;", 1);
        thrown("b10010,9;b10114,9;b10018,9;", 2);
        thrown("b10010,9;b10114,9;b10018,9;b10122,9;", -4);
        thrown("b10022,9;b10010,9;b10018,9;b10114,9;", 2);
        thrown("b10010,9;b10114,9;b00016,9;b10018,9;", 1);
        e.says(Edges.TERMS, "with which all BOWLS together are one NEST; -4 more, there are no BOWLS.");
        e.is("throwsNew() of none", new BowlsWithin().throwsNew(), -4);
        e.is("throwsNew() of none any more", Due.heapOf("b00010,9;x;").throwsNew(), -4);
        thrown("b20010,9;b20020,9;", -4);
        thrown("b10010,9;b10114,9;b00014,9;", -4);
    }

    private void thrownByWidth() {
        e.says(Edges.TERMS, "any WIDTHS, DEPTHS 1 .. 99)");
        thrown("b10010,9;b10113,9;", -4);
        thrown("b1001,9;b1015,9;", 1);
        thrown("b1001,9;b1014,9;", -4);
        thrown("b10010,9;b10132,9;w9;", 1);
        thrown("b10010,9;b10131,9;w9;", -4);
        thrown("b49110,9;b40024,9;", 1);
        thrown("b49110,9;b40023,9;", -4);
        thrown("b49010,9;b40115,9;", 1);
        thrown("b49010,9;b40114,9;", -4);
        thrown("b10097,9;b19199,9;", 1);
        thrown("b10098,9;b19199,9;", -4);
        thrown("b10096,9;b19199,9;w1;", 1);
        thrown("b10097,9;b19199,9;w1;", -4);
    }

    private void thrownByDepth() {
        thrown("b10010,1;b10114,1;", 1);
        thrown("b10010,99;b10114,99;", 1);
        thrown("b10010,99;b19114,90;", 1);
        thrown("b10010,99;b19114,89;", -4);
        thrown("b10010,10;b10114,9;", -4);
        thrown("b10010,10;b11114,9;", 1);
        thrown("b00010,10;b00020,9;", -4);
    }

    private void help(String text, int depth, int width, int many) {
        BowlsWithin x = Due.heapOf(text);
        e.is("helps(" + depth + ", 0) of " + text, x.helps(depth, 0), width);
        e.is("helps(" + depth + ", 1) of " + text, x.helps(depth, 1), many);
    }

    private void helpsOfTerms() {
        e.says(Edges.TERMS, "HELPS: the WIDTH (1 .. 99) of one new BOWL (KIND 0, FIGURE 0, TURN 0, told DEPTH)");
        help("b00097,9;", 10, 99, 2);
        help("b00098,9;", 10, 1, 1);
        help("b0003,9;", 9, 1, 2);
        help("b0002,9;", 9, 4, 2);
        help("b0002,9;", 8, 1, 1);
        help("b0003,99;", 99, 1, 2);
        help("b0003,98;", 99, 5, 2);
        help("b00012,9;w9;", 9, 1, 2);
        help("b00011,9;w9;", 9, 22, 2);
        help("b1013,9;", 9, 1, 2);
        help("b10010,9;", 10, 12, 2);
        help("b10110,9;", 10, 12, 2);
        help("b20010,10;", 9, 1, 1);
        help("b20010,10;", 10, 12, 2);
        help("b01010,9;", 10, 1, 2);
        help("b01010,9;", 11, 12, 2);
    }

    private void helpsMost() {
        e.says(Edges.TERMS, "by which LONGEST of all BOWLS and it has most, of several the least; how many it has then.");
        help("b1001,5;b1015,5;", 5, 3, 3);
        help("b1001,5;b1014,5;", 5, 1, 2);
        help("b1001,5;b10120,5;", 5, 3, 3);
        help("b1001,5;b10120,5;w2;", 5, 5, 3);
        help("b00010,9;b00014,9;b00030,9;", 9, 1, 4);
        help("b00010,9;b00014,9;b00030,9;", 10, 32, 4);
        help("b00091,9;b00095,9;b00098,9;", 10, 1, 3);
        help("b00091,9;b00095,9;b00097,9;", 10, 99, 4);
        help("b1001,9;b1003,9;b1005,9;b10110,9;b10113,9;b10117,9;", 9, 7, 7);
        help("b1001,9;b1003,9;b1005,9;b10110,9;b10113,9;b10117,9;", 10, 7, 4);
        help("b1001,9;b1003,9;b1005,9;b1017,9;b1019,9;", 9, 5, 5);
        help(Edges.NINE, 9, 1, 10);
        help(Edges.NINE, 10, 1, 9);
    }

    private void whole() {
        e.says(15, "WHOLE.");
        int[] want = {3, 1, 1, 0, 0, 0, 0, 0, 0};
        for (int k = 1; k <= 9; k++) {
            int many = k;
            e.leaves("whole(" + k + ") of none", BowlsWithin::new, x -> x.whole(many), 0);
            e.leaves("whole(" + k + ") of three", Edges::some, x -> x.whole(many), want[k - 1]);
        }
        BowlsWithin nine = Edges.full();
        e.is("carry()", nine.carry(), 17);
        e.is("whole(2) after it", nine.whole(2), 4);
        e.is("load(10)", nine.load(10), 5);
        e.is("whole(8) after it", nine.whole(8), 1);
        e.is("fewest()", nine.fewest(), 1);
        e.is("whole(5) after it", nine.whole(5), 1);
        e.is("carry() after it", nine.carry(), 17);
        e.says(15, "-1.");
        int[] wrong = {0, 10, -1, Edges.MIN, Edges.MAX};
        for (int k : wrong) {
            e.leaves("whole(" + k + ") of none", BowlsWithin::new, x -> x.whole(k), -1);
            e.leaves("whole(" + k + ") of three", Edges::some, x -> x.whole(k), -1);
            e.leaves("whole(" + k + ") of nine", Edges::full, x -> x.whole(k), -1);
        }
    }

    private void throwsNew() {
        e.says(16, "THROWN; -4.");
        e.leaves("throwsNew() of none", BowlsWithin::new, x -> x.throwsNew(), -4);
        e.leaves("throwsNew() of three", Edges::some, x -> x.throwsNew(), 0);
        e.leaves("throwsNew() of nine", Edges::full, x -> x.throwsNew(), 0);
        e.leaves("throwsNew() of those from a shelf", () -> ovals(14), x -> x.throwsNew(), 1);
        e.leaves("throwsNew() of those from a shelf, too near", () -> ovals(13), x -> x.throwsNew(), -4);
        String nine = "b10090,9;b10080,9;b10070,9;b10060,9;b10050,9;b10040,9;b10030,9;b10020,9;b10010,9;";
        String[] turns = {"", "t8;", "t8;t0;", "t4;", "t4;t0;", "t4;t6;"};
        int[] want = {0, 1, 2, 2, -4, -4};
        for (int i = 0; i < turns.length; i++) {
            String text = nine + turns[i];
            e.leaves("throwsNew() of " + text, () -> Due.heapOf(text), x -> x.throwsNew(), want[i]);
        }
    }

    /** Two ovals that come from a shelf, turned unlike each other. */
    private static BowlsWithin ovals(int wider) {
        BowlsWithin x = new BowlsWithin();
        x.keep(0, 1, 1, 0);
        x.comes(0, 10, 9, 0);
        x.comes(0, wider, 9, 1);
        return x;
    }

    private void helps() {
        e.says(17, "HELPS: the WIDTH (what 0), how many (1).");
        int[][] some = {{1, 1, 4}, {9, 1, 4}, {10, 13, 4}, {12, 13, 4}, {13, 33, 4}, {99, 33, 4}};
        for (int[] s : some) {
            e.leaves("helps(" + s[0] + ", 0)", Edges::some, x -> x.helps(s[0], 0), s[1]);
            e.leaves("helps(" + s[0] + ", 1)", Edges::some, x -> x.helps(s[0], 1), s[2]);
        }
        int[] depths = {1, 99};
        for (int depth : depths) {
            e.leaves("helps(" + depth + ", 0) of none", BowlsWithin::new, x -> x.helps(depth, 0), 1);
            e.leaves("helps(" + depth + ", 1) of none", BowlsWithin::new, x -> x.helps(depth, 1), 1);
        }
        e.leaves("helps(1, 1) of nine", Edges::full, x -> x.helps(1, 1), 10);
        e.leaves("helps(99, 1) of nine", Edges::full, x -> x.helps(99, 1), 9);
        e.leaves("helps(9, 0) of one from a shelf", () -> Edges.plain(2), x -> x.helps(9, 0), 4);
        BowlsWithin fewer = Due.heapOf("b00040,9;b00030,9;b00020,9;b00010,9;");
        e.is("helps(9, 1) of four", fewer.helps(9, 1), 5);
        Due.told(fewer, "x;");
        e.is("helps(9, 1) of three", fewer.helps(9, 1), 4);
        Due.told(fewer, "x;x;");
        e.is("helps(10, 1) of one", fewer.helps(10, 1), 2);
        Due.told(fewer, "x;");
        e.is("helps(10, 1) of none", fewer.helps(10, 1), 1);
        e.says(17, "-1.");
        int[][] wrong = {
            {0, 0}, {0, 1}, {100, 0}, {100, 1}, {-1, 0}, {9, -1}, {9, 2}, {Edges.MIN, 0}, {Edges.MAX, 1}, {9, Edges.MIN},
            {9, Edges.MAX}
        };
        for (int[] w : wrong) {
            e.leaves("helps(" + w[0] + ", " + w[1] + ")", Edges::some, x -> x.helps(w[0], w[1]), -1);
            e.leaves("helps(" + w[0] + ", " + w[1] + ") of none", BowlsWithin::new, x -> x.helps(w[0], w[1]), -1);
        }
    }
}
