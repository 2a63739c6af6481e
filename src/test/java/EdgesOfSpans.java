/** The terms SPANS, NEXT, FROM, BREAKS, DRAWS, and promises 20 to 23. */
final class EdgesOfSpans {
    private static final int[] NO_WHAT = {-1, 2, 3, Edges.MIN, Edges.MAX};
    private static final int[] NO_SPAN = {-1, 10, Edges.MIN, Edges.MAX};

    private final Edges e;

    EdgesOfSpans(Edges e) {
        this.e = e;
    }

    void ask() {
        spansOfTerms();
        oneAtLeast();
        nextOfTerms();
        fromOfTerms();
        breaksOfTerms();
        drawsOfTerms();
        spans();
        next();
        from();
        fromRefused();
        breaks();
    }

    private void span(String text, int span, int want) {
        e.is("spans(0, 1, " + span + ") of " + text, Due.heapOf(text).spans(0, 1, span), want);
    }

    private void spansOfTerms() {
        e.says(Edges.TERMS, "SPANS: if each WIDTH may be up to e hairs (0 .. 9) more or less,");
        span("b00040,9;b00060,9;", -1, -1);
        span("b00040,9;b00060,9;", 0, 2);
        span("b00040,9;b00060,9;", 9, 2);
        span("b00040,9;b00060,9;", 10, -1);
        e.says(Edges.TERMS, "whether one BOWL LIES IN another one by all such WIDTHS of both (2), by none (0), else PERHAPS (1).");
        for (int s = 0; s <= 9; s++) {
            span("b00040,9;b000" + (42 + 2 * s) + ",9;", s, 2);
            span("b00040,9;b000" + (41 + 2 * s) + ",9;", s, s == 0 ? 0 : 1);
            span("b00040,9;b000" + (42 - 2 * s) + ",9;", s, s == 0 ? 2 : 1);
            span("b00040,9;b000" + (41 - 2 * s) + ",9;", s, 0);
            span("b00040,9;b000" + (45 + 2 * s) + ",9;w3;", s, 2);
            span("b00040,9;b000" + (44 + 2 * s) + ",9;w3;", s, s == 0 ? 0 : 1);
            span("b00040,10;b000" + (42 + 2 * s) + ",9;", s, 0);
            span("b10040,9;b101" + (42 + 2 * s) + ",9;", s, 0);
            span("b0001,9;b20099,9;", s, 0);
        }
        span("b19120,9;b0001,9;x;b00037,9;", 3, 2);
        span("b19120,9;b0001,9;x;b00036,9;", 3, 1);
        span("b19120,9;b0001,9;x;b00025,9;", 3, 1);
        span("b19120,9;b0001,9;x;b00024,9;", 3, 0);
    }

    private void oneAtLeast() {
        e.says(Edges.TERMS, "1 at least:");
        span("b0001,9;b1915,9;", 7, 2);
        span("b0001,9;b1915,9;", 8, 1);
        span("b0001,9;b1911,9;", 7, 2);
        span("b0001,9;b1911,9;", 8, 1);
        span("b0003,9;b5904,9;", 9, 1);
        span("b0003,9;b5903,9;", 9, 0);
        span("b0001,9;b5904,9;", 9, 1);
        span("b0001,9;b5903,9;", 9, 0);
        span("b2909,9;b5903,9;", 9, 0);
        span("b0009,9;b0001,9;", 5, 1);
        span("b0009,9;b0001,9;", 4, 0);
        span("b00099,9;b00099,9;", 1, 1);
        span("b00099,9;b00098,9;", 1, 0);
        span("b00099,9;b19199,9;", 3, 2);
        span("b00099,9;b19199,9;", 4, 1);
    }

    private void following(String text, int span, int bowl, int many) {
        BowlsWithin x = Due.heapOf(text);
        e.is("next(" + span + ", 0) of " + text, x.next(span, 0), bowl);
        e.is("next(" + span + ", 1) of " + text, x.next(span, 1), many);
    }

    private void nextOfTerms() {
        e.says(Edges.TERMS, "NEXT: the BOWL by which, if its own WIDTH were known (as it is), "
            + "fewest ordered pairs of unlike BOWLS are PERHAPS, of several the least;");
        following("b00040,9;b00046,9;", 4, 0, 0);
        following("b00040,9;b00046,9;", 5, 0, 1);
        following("b00040,9;b00041,9;", 1, 0, 1);
        following("b00040,9;b00040,9;", 1, 0, 0);
        following("b00040,9;b00040,9;", 2, 0, 2);
        following("b00050,9;b00010,9;b00013,9;b00016,9;", 0, 0, 0);
        following("b00050,9;b00010,9;b00013,9;b00016,9;", 1, 2, 0);
        following("b00050,9;b00010,9;b00013,9;", 1, 1, 0);
        following("b00090,9;b00010,9;b00016,9;", 4, 1, 0);
        following("b00090,9;b00050,9;b00050,9;b00010,9;b00016,9;", 4, 3, 2);
        following("b00090,9;b00070,9;b00010,9;b00010,9;", 2, 0, 2);
        e.says(Edges.TERMS, "-4 no BOWL; how many then.");
        e.is("next(9, 0) of none", new BowlsWithin().next(9, 0), -4);
        e.is("next(9, 1) of none", new BowlsWithin().next(9, 1), -4);
        following("b00040,9;", 9, 0, 0);
        following("b00040,9;", 0, 0, 0);
        following(Edges.NINE, 0, 0, 0);
        following("b00040,9;b00040,9;x;", 2, 0, 0);
    }

    private void whence(String text, int first, int other, int w, int d, int want) {
        e.leaves("from(" + first + ", " + other + ", " + w + ", " + d + ") of " + text, () -> Due.heapOf(text),
            x -> x.from(first, other, w, d), want);
    }

    private void fromOfTerms() {
        e.says(Edges.TERMS, "FROM: of two sets told as bits (no BOWL in both; none is well) those which, with one more BOWL "
            + "(KIND 0, FIGURE 0, TURN 0, told WIDTH, DEPTH), are one NEST:");
        whence("b00010,9;b00050,9;", 1, 0, 12, 9, 3);
        whence("b00010,9;b00050,9;", 1, 0, 11, 9, 2);
        whence("b00010,9;b00050,9;", 1, 0, 10, 9, 2);
        whence("b00010,9;b00050,9;", 1, 0, 9, 9, 2);
        whence("b00010,9;b00050,9;", 1, 0, 8, 9, 3);
        whence("b00010,9;b00050,9;", 1, 0, 12, 8, 2);
        whence("b00010,9;b00050,9;", 1, 0, 8, 10, 2);
        whence("b00010,9;b01050,9;", 2, 0, 48, 10, 3);
        whence("b00010,9;b01050,9;", 2, 0, 48, 11, 2);
        whence("b00010,9;b01050,9;w4;", 2, 0, 44, 9, 3);
        whence("b00010,9;b01050,9;w4;", 2, 0, 45, 9, 2);
        whence("b10010,9;b10114,9;", 3, 0, 12, 9, 3);
        whence("b10010,9;b10114,9;", 3, 0, 11, 9, 2);
        whence("b10010,9;b10114,9;", 3, 0, 13, 9, 2);
        whence("b20010,9;", 1, 0, 1, 1, 2);
        whence("b20010,9;", 1, 0, 12, 9, 3);
        e.says(Edges.TERMS, "1 the first alone, 2 the other one alone, 3 both, 0 neither.");
        whence("b00010,9;b00013,9;", 1, 2, 12, 9, 1);
        whence("b00010,9;b00013,9;", 2, 1, 12, 9, 2);
        whence("b00010,9;b00014,9;", 1, 2, 12, 9, 3);
        whence("b00011,9;b00013,9;", 1, 2, 12, 9, 0);
        whence("b00010,9;b00013,9;", 0, 2, 12, 9, 1);
        whence("b00010,9;b00013,9;", 0, 0, 12, 9, 3);
    }

    private static String bowls(int n) {
        return Edges.NINE.substring(0, 9 * n);
    }

    private void breaksOfTerms() {
        e.says(Edges.TERMS, "BREAKS: n times (1 .. 40) with a seed z a BOWL is dropped (a DRAW below how many there are; "
            + "it is broken then, if it wasn't): how many are broken;");
        BowlsWithin nine = Due.heapOf(Edges.NINE);
        e.is("one time", nine.breaks(1, 97, 0), 1);
        e.is("two times", nine.breaks(2, 97, 0), 2);
        e.is("the third is broken already", nine.breaks(3, 97, 0), 2);
        e.is("the fourth", nine.breaks(4, 97, 0), 3);
        e.is("39 times", nine.breaks(39, 97, 0), 8);
        e.is("40 times", nine.breaks(40, 97, 0), 9);
        BowlsWithin seven = Due.heapOf(bowls(7));
        e.is("one time of seven", seven.breaks(1, 7, 0), 1);
        e.is("the second is broken already", seven.breaks(2, 7, 0), 1);
        e.is("the third of seven", seven.breaks(3, 7, 0), 2);
        e.is("of one, one time", Due.heapOf("b0009,9;").breaks(1, 97, 0), 1);
        e.is("of one, 40 times", Due.heapOf("b0009,9;").breaks(40, 97, 0), 1);
        e.says(Edges.TERMS, "how many BOWLS LONGEST of all others has.");
        e.is("others by one time", nine.breaks(1, 97, 1), 8);
        e.is("others by 39 times", nine.breaks(39, 97, 1), 1);
        e.is("others by 40 times", nine.breaks(40, 97, 1), 0);
        e.is("no others", Due.heapOf("b0009,9;").breaks(1, 97, 1), 0);
        BowlsWithin lids = Due.heapOf("b20020,9;b20020,9;b20020,9;b20020,9;");
        e.is("others that are no nest", lids.breaks(1, 97, 1), 1);
    }

    /** Which bowl is dropped first: the only one without which no two lie in one another. */
    private void draw(int z, int n, int want) {
        for (int bowl = 0; bowl < n; bowl++) {
            StringBuilder b = new StringBuilder();
            for (int i = 0; i < n; i++) {
                b.append(i == bowl ? "b0005,9;" : "b0009,9;");
            }
            e.is("longest of others by seed " + z + ", " + n + " bowls, if " + bowl + " is needed",
                Due.heapOf(b.toString()).breaks(1, z, 1), bowl == want ? 1 : 2);
        }
    }

    private void drawsOfTerms() {
        e.says(Edges.TERMS, "DRAWS: z becomes z times 1103515245 plus 12345 (an int); "
            + "a DRAW below n is (z without its sign's bit over 65536, cut) modulo n.");
        int[][] draws = {
            {-59267453, 9, 0}, {-115164386, 9, 0}, {-404969853, 9, 1}, {-460866786, 9, 1}, {-750672253, 9, 2},
            {-1096374653, 9, 3}, {1414183710, 9, 8}, {1124378243, 9, 0}, {-1916945634, 9, 7}, {230538014, 9, 7},
            {2088216195, 9, 0}, {2032319262, 9, 0}, {1742513795, 9, 1},
            {-750672253, 3, 2}, {-1096374653, 3, 0}, {-1096374653, 4, 3}, {-1916945634, 3, 1},
            {0, 9, 0}, {1, 9, 8}, {-1, 9, 8}, {Edges.MAX, 9, 8}, {Edges.MIN, 9, 0}, {7, 9, 7}, {97, 9, 8}
        };
        for (int[] d : draws) {
            draw(d[0], d[1], d[2]);
        }
    }

    private void spans() {
        e.says(20, "SPANS: 2, 1, 0.");
        int[] zeroInOne = {2, 2, 2, 1, 1, 1, 1, 1, 1, 1};
        int[] oneInZero = {0, 0, 0, 0, 0, 0, 1, 1, 1, 1};
        for (int s = 0; s <= 9; s++) {
            int span = s;
            e.leaves("spans(0, 1, " + s + ")", Edges::some, x -> x.spans(0, 1, span), zeroInOne[s]);
            e.leaves("spans(1, 0, " + s + ")", Edges::some, x -> x.spans(1, 0, span), oneInZero[s]);
            e.leaves("spans(2, 0, " + s + ")", Edges::some, x -> x.spans(2, 0, span), 0);
        }
        e.is("spans(8, 7, 0) of nine", Edges.full().spans(8, 7, 0), 2);
        e.says(20, "-1 (one twice, too).");
        int[][] wrong = {
            {0, 0, 0}, {2, 2, 9}, {3, 3, 0}, {-1, 0, 0}, {0, -1, 0}, {3, 0, 0}, {0, 3, 0}, {Edges.MIN, 0, 0},
            {0, Edges.MAX, 0}, {9, 0, 0}
        };
        for (int[] w : wrong) {
            e.leaves("spans(" + w[0] + ", " + w[1] + ", " + w[2] + ")", Edges::some, x -> x.spans(w[0], w[1], w[2]), -1);
        }
        for (int span : NO_SPAN) {
            e.leaves("spans(0, 1, " + span + ")", Edges::some, x -> x.spans(0, 1, span), -1);
        }
        e.leaves("spans(8, 9, 0) of nine", Edges::full, x -> x.spans(8, 9, 0), -1);
        e.leaves("spans(0, 1, 0) of none", BowlsWithin::new, x -> x.spans(0, 1, 0), -1);
    }

    private void next() {
        e.says(21, "NEXT: the BOWL (what 0; -4), how many (1; -4).");
        int[] spans = {0, 9};
        for (int span : spans) {
            for (int what = 0; what <= 1; what++) {
                int w = what;
                e.leaves("next(" + span + ", " + w + ") of none", BowlsWithin::new, x -> x.next(span, w), -4);
                e.leaves("next(" + span + ", " + w + ") of one", () -> Due.heapOf("b0009,9;"), x -> x.next(span, w), 0);
            }
        }
        e.leaves("next(2, 0)", Edges::some, x -> x.next(2, 0), 0);
        e.leaves("next(2, 1)", Edges::some, x -> x.next(2, 1), 0);
        e.leaves("next(0, 1)", Edges::some, x -> x.next(0, 1), 0);
        e.says(21, "-1.");
        for (int span : NO_SPAN) {
            e.leaves("next(" + span + ", 0)", Edges::some, x -> x.next(span, 0), -1);
            e.leaves("next(" + span + ", 1) of none", BowlsWithin::new, x -> x.next(span, 1), -1);
        }
        for (int what : NO_WHAT) {
            e.leaves("next(0, " + what + ")", Edges::some, x -> x.next(0, what), -1);
            e.leaves("next(9, " + what + ") of none", BowlsWithin::new, x -> x.next(9, what), -1);
        }
    }

    private void from() {
        e.says(22, "FROM: 0 .. 3.");
        int[][] want = {
            {1, 2, 7, 9, 3}, {1, 2, 13, 9, 3}, {1, 2, 12, 9, 2}, {1, 2, 21, 9, 3}, {1, 4, 27, 9, 1}, {6, 1, 8, 9, 1},
            {0, 7, 1, 1, 3}, {7, 0, 8, 9, 2}, {0, 0, 1, 99, 3}, {0, 0, 99, 1, 3}, {1, 6, 99, 99, 3}, {2, 1, 99, 8, 0}
        };
        for (int[] w : want) {
            e.leaves("from(" + w[0] + ", " + w[1] + ", " + w[2] + ", " + w[3] + ")", Edges::some,
                x -> x.from(w[0], w[1], w[2], w[3]), w[4]);
        }
        e.leaves("from(511, 0, 81, 9) of nine", Edges::full, x -> x.from(511, 0, 81, 9), 3);
        e.leaves("from(511, 0, 82, 9) of nine", Edges::full, x -> x.from(511, 0, 82, 9), 2);
        e.leaves("from(0, 511, 81, 9) of nine", Edges::full, x -> x.from(0, 511, 81, 9), 3);
        e.leaves("from(1, 0, 12, 9) of one from a shelf", () -> Edges.plain(10), x -> x.from(1, 0, 12, 9), 3);
        e.leaves("from(1, 0, 11, 9) of one from a shelf", () -> Edges.plain(10), x -> x.from(1, 0, 11, 9), 2);
        e.leaves("from(0, 0, 1, 1) of none", BowlsWithin::new, x -> x.from(0, 0, 1, 1), 3);
    }

    private void fromRefused() {
        e.says(22, "-1 (bits of BOWLS that there are not, one in both; w, d 1 .. 99).");
        int[] bits = {8, 9, 512, -1, -8, Edges.MIN, Edges.MAX};
        for (int b : bits) {
            e.leaves("from(" + b + ", 0, 9, 9)", Edges::some, x -> x.from(b, 0, 9, 9), -1);
            e.leaves("from(0, " + b + ", 9, 9)", Edges::some, x -> x.from(0, b, 9, 9), -1);
        }
        int[][] both = {{1, 1}, {3, 6}, {7, 4}, {1, 7}, {7, 7}};
        for (int[] b : both) {
            e.leaves("from(" + b[0] + ", " + b[1] + ", 9, 9)", Edges::some, x -> x.from(b[0], b[1], 9, 9), -1);
        }
        int[] hairs = {0, 100, -1, Edges.MIN, Edges.MAX};
        for (int h : hairs) {
            e.leaves("from(1, 2, " + h + ", 9)", Edges::some, x -> x.from(1, 2, h, 9), -1);
            e.leaves("from(1, 2, 9, " + h + ")", Edges::some, x -> x.from(1, 2, 9, h), -1);
        }
        e.leaves("from(512, 0, 9, 9) of nine", Edges::full, x -> x.from(512, 0, 9, 9), -1);
        e.leaves("from(0, 512, 9, 9) of nine", Edges::full, x -> x.from(0, 512, 9, 9), -1);
        e.leaves("from(1, 0, 9, 9) of none", BowlsWithin::new, x -> x.from(1, 0, 9, 9), -1);
    }

    private void breaks() {
        e.says(23, "BREAKS: how many are broken (what 0), LONGEST of the others (1).");
        int[] seeds = {0, 1, -1, Edges.MIN, Edges.MAX};
        for (int z : seeds) {
            e.leaves("breaks(1, " + z + ", 0)", Edges::some, x -> x.breaks(1, z, 0), 1);
            e.leaves("breaks(1, " + z + ", 1)", Edges::some, x -> x.breaks(1, z, 1), 2);
            e.leaves("breaks(40, " + z + ", 0)", Edges::some, x -> x.breaks(40, z, 0), 3);
            e.leaves("breaks(40, " + z + ", 1)", Edges::some, x -> x.breaks(40, z, 1), 0);
        }
        e.says(23, "-1, -3 there are no BOWLS.");
        int[] times = {0, 41, -1, Edges.MIN, Edges.MAX};
        for (int n : times) {
            e.leaves("breaks(" + n + ", 1, 0)", Edges::some, x -> x.breaks(n, 1, 0), -1);
            e.leaves("breaks(" + n + ", 1, 1) of none", BowlsWithin::new, x -> x.breaks(n, 1, 1), -1);
        }
        for (int what : NO_WHAT) {
            e.leaves("breaks(1, 1, " + what + ")", Edges::some, x -> x.breaks(1, 1, what), -1);
            e.leaves("breaks(40, 1, " + what + ") of none", BowlsWithin::new, x -> x.breaks(40, 1, what), -1);
        }
        for (int what = 0; what <= 1; what++) {
            int w = what;
            e.leaves("breaks(1, 1, " + w + ") of none", BowlsWithin::new, x -> x.breaks(1, 1, w), -3);
            e.leaves("breaks(40, 1, " + w + ") of none", BowlsWithin::new, x -> x.breaks(40, 1, w), -3);
        }
    }
}
