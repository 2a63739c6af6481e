/** The terms OUT and JUDGED, and promises 18 and 19. */
final class EdgesOfTakingOut {
    private static final int[] NO_SHELF = {-1, 8, Edges.MIN, Edges.MAX};

    private final Edges e;

    EdgesOfTakingOut(Edges e) {
        this.e = e;
    }

    void ask() {
        told();
        takenOut();
        howMany();
        judgedOfTerms();
        out();
        outRefused();
        outNoPlace();
        judge();
        judgeRefused();
    }

    /** Bowls by a text, and a row of bytes on shelf 5. */
    private static BowlsWithin with(String text, int... row) {
        BowlsWithin x = Due.heapOf(text);
        Due.list(x, 5, 0, row);
        return x;
    }

    private void taken(String text, int v, int want, int... row) {
        e.leaves("out(5, " + v + ") of " + text, () -> with(text, row), x -> x.out(5, v), want);
    }

    private void told() {
        e.says(Edges.TERMS, "OUT: a ROW (bytes) tells BOWLS that lie in one another now, the outermost first;");
        taken("b00012,9;b00010,9;", 0, 2, 0, 1);
        taken("b00012,9;b00010,9;", 0, -13, 1, 0);
        taken("b00011,9;b00010,9;", 0, -13, 0, 1);
        taken("b00013,9;b00010,9;w1;", 0, 2, 0, 1);
        taken("b00012,9;b00010,9;w1;", 0, -13, 0, 1);
        taken("b00010,9;b00012,9;b00014,9;", 0, 2, 2, 0);
    }

    private void takenOut() {
        e.says(Edges.TERMS, "at a WARMTH v (0 .. 9) they are taken out, the innermost first, till one is stuck "
            + "(it would not LIE IN the one around it at WARMTH v):");
        for (int v = 0; v <= 9; v++) {
            taken("b00030,9;b000" + (28 - v) + ",9;", v, 2, 0, 1);
            if (v > 0) {
                taken("b00030,9;b000" + (29 - v) + ",9;", v, 0, 0, 1);
            }
        }
        taken("b00030,9;b00026,9;b00010,9;", 2, 3, 0, 1, 2);
        taken("b00030,9;b00026,9;b00010,9;", 3, 1, 0, 1, 2);
        taken("b00030,9;b00020,9;b00018,9;", 1, 0, 0, 1, 2);
        taken("b00060,9;b00058,9;b00040,9;b00020,9;", 1, 2, 0, 1, 2, 3);
        taken("b00060,9;b00050,9;b00048,9;b00020,9;", 1, 1, 0, 1, 2, 3);
    }

    private void howMany() {
        e.says(Edges.TERMS, "how many are taken out (all, the outermost too, if none is stuck).");
        taken("b00010,9;", 0, 1, 0);
        taken("b00010,9;", 9, 1, 0);
        taken("b20010,9;", 9, 1, 0);
        taken(Edges.NINE, 0, 9, 0, 1, 2, 3, 4, 5, 6, 7, 8);
        taken(Edges.NINE, 1, 0, 0, 1, 2, 3, 4, 5, 6, 7, 8);
        taken(Edges.NINE + "x;b00082,9;", 1, 1, 0, 1, 2, 3, 4, 5, 6, 7, 8);
    }

    private void judged(String text, int want, int... row) {
        e.leaves("judge(5) of " + text, () -> with(text, row), x -> x.judge(5), want);
    }

    private void judgedOfTerms() {
        e.says(Edges.TERMS, "JUDGED: a ROW, the outermost first: the place of the first that is no BOWL, came already,");
        judged("b00014,9;b00012,9;b00010,9;", -4, 0, 1, 2);
        judged("b00014,9;b00012,9;b00010,9;", 0, 3);
        judged("b00014,9;b00012,9;b00010,9;", 0, -1);
        judged("b00014,9;b00012,9;b00010,9;", 0, 127);
        judged("b00014,9;b00012,9;b00010,9;", 0, -128);
        judged("b00014,9;b00012,9;b00010,9;", 1, 0, 3);
        judged("b00014,9;b00012,9;b00010,9;", 1, 0, 32);
        judged("b00014,9;b00012,9;b00010,9;", 1, 0, 0);
        judged("b00014,9;b00012,9;b00010,9;", 2, 0, 1, 1);
        judged("b00014,9;b00012,9;b00010,9;", 3, 0, 1, 2, 0);
        judged("b00014,9;b00012,9;b00010,9;", 1, 0, 0, 3, 1);
        judged(Edges.NINE, -4, 0, 1, 2, 3, 4, 5, 6, 7, 8);
        judged(Edges.NINE, 9, 0, 1, 2, 3, 4, 5, 6, 7, 8, 9);
        judged(Edges.NINE, 9, 0, 1, 2, 3, 4, 5, 6, 7, 8, 8);
        e.says(Edges.TERMS, "or does not LIE IN the one ahead of it in the ROW; -4.");
        judged("b00012,9;b00010,9;", -4, 0, 1);
        judged("b00011,9;b00010,9;", 1, 0, 1);
        judged("b00012,9;b00010,9;", 1, 1, 0);
        judged("b00013,9;b00010,9;w1;", -4, 0, 1);
        judged("b00012,9;b00010,9;w1;", 1, 0, 1);
        judged("b00010,10;b01012,9;b00014,9;", -4, 2, 1, 0);
        judged("b00010,10;b01012,9;b00014,9;", 1, 2, 0);
        judged("b00010,9;", -4, 0);
        judged("b00010,9;", -4);
        judged("b00010,9;x;", 0, 0);
    }

    private void out() {
        e.says(18, "OUT by the ROW in SHELF d at a WARMTH.");
        for (int d = 0; d <= 7; d++) {
            BowlsWithin x = Edges.some();
            Due.list(x, d, 0, 2, 1, 0);
            int[] want = {3, 3, 3, 3, 3, 3, 3, 0, 0, 0};
            for (int v = 0; v <= 9; v++) {
                e.is("out(" + d + ", " + v + ")", x.out(d, v), want[v]);
            }
        }
    }

    private void outRefused() {
        e.says(18, "-1, -11, -12 (no ROW of bytes),");
        int[] warmths = {-1, 10, Edges.MIN, Edges.MAX};
        for (int d : NO_SHELF) {
            e.leaves("out(" + d + ", 0)", Edges::some, x -> x.out(d, 0), -1);
        }
        for (int v : warmths) {
            for (int d = 1; d <= 6; d++) {
                int shelf = d;
                e.leaves("out(" + d + ", " + v + ")", Edges::some, x -> x.out(shelf, v), -1);
            }
        }
        int[] right = {0, 9};
        for (int v : right) {
            e.leaves("out of nothing", Edges::some, x -> x.out(5, v), -11);
            e.leaves("out of a bowl", Edges::some, x -> x.out(1, v), -12);
            e.leaves("out of shorts that are no bowls", Edges::some, x -> x.out(3, v), -12);
            e.leaves("out of ints that are no bowls", Edges::some, x -> x.out(4, v), -12);
            e.leaves("out of no ints", Edges::some, x -> x.out(6, v), -12);
            e.leaves("out of bytes", Edges::some, x -> x.out(2, v), 2);
        }
        for (int sort = 0; sort <= 2; sort++) {
            BowlsWithin x = Edges.some();
            Due.list(x, 5, sort, 2, 1);
            e.is("out of sort " + sort, x.out(5, 0), sort == 0 ? 2 : -12);
        }
    }

    private void outNoPlace() {
        e.says(18, "-13 (empty, no BOWL, one twice, one that does not LIE IN the one ahead now).");
        String three = "b00014,9;b00012,9;b00010,9;";
        taken(three, 0, -13);
        taken(three, 0, 1, 2);
        taken(three, 0, -13, 3);
        taken(three, 0, -13, -1);
        taken(three, 0, -13, 127);
        taken(three, 0, -13, -128);
        taken(three, 0, -13, 0, 1, 3);
        taken(three, 0, -13, 3, 0, 1);
        taken(three, 0, -13, 0, 0);
        taken(three, 0, -13, 0, 1, 2, 2);
        taken(three, 0, -13, 0, 1, 0);
        taken(three, 0, -13, 0, 2, 1);
        taken(three, 0, -13, 1, 0, 2);
        taken(three, 0, 2, 0, 2);
        taken(three + "w1;", 0, 2, 0, 2);
        taken(three + "w2;", 0, 2, 0, 2);
        taken(three + "w3;", 0, -13, 0, 2);
        taken(three, 3, 0, 0, 2);
        taken("b00014,9;x;", 0, -13, 0);
        taken(Edges.NINE, 0, -13, 0, 1, 2, 3, 4, 5, 6, 7, 8, 9);
        taken(Edges.NINE, 0, -13, 0, 1, 2, 3, 4, 5, 6, 7, 8, 8);
    }

    private void judge() {
        e.says(19, "JUDGED by the ROW in SHELF d; -4.");
        for (int d = 0; d <= 7; d++) {
            for (int sort = 0; sort <= 2; sort++) {
                BowlsWithin x = Edges.some();
                Due.list(x, d, sort, 2, 1, 0);
                e.is("judge(" + d + ") of sort " + sort, x.judge(d), -4);
                x.put(d, 1, 3);
                e.is("judge(" + d + ") of no bowl", x.judge(d), 1);
                x.put(d, 0, 256);
                e.is("judge(" + d + ") of 256 in sort " + sort, x.judge(d), sort == 0 ? 1 : 0);
                x.put(d, 0, 65536);
                e.is("judge(" + d + ") of 65536 in sort " + sort, x.judge(d), sort == 2 ? 0 : 1);
                x.put(d, 0, Edges.MIN);
                e.is("judge(" + d + ") of the least in sort " + sort, x.judge(d), sort == 2 ? 0 : 1);
                x.row(d, sort, 0);
                e.is("judge(" + d + ") of no elements", x.judge(d), -4);
                x.row(d, sort, 100);
                e.is("judge(" + d + ") of zeros", x.judge(d), 1);
            }
        }
    }

    private void judgeRefused() {
        e.says(19, "-1, -11, -12 (no ROW).");
        for (int d : NO_SHELF) {
            e.leaves("judge(" + d + ")", Edges::some, x -> x.judge(d), -1);
        }
        e.leaves("judge of nothing", Edges::some, x -> x.judge(5), -11);
        e.leaves("judge of a bowl", Edges::some, x -> x.judge(1), -12);
        e.leaves("judge of shorts", Edges::some, x -> x.judge(3), 0);
        e.leaves("judge of no ints", Edges::some, x -> x.judge(6), -4);
        e.is("judge of nothing, no bowls", new BowlsWithin().judge(0), -11);
    }
}
