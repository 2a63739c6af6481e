/** Promises 20 to 23: spans, next, from, breaks. */
public final class SpansTest {
    private static final Due due = new Due("spans");

    public static void main(String[] args) {
        spans();
        next();
        from();
        breaks();
        due.end();
    }

    private static void spans() {
        BowlsWithin x = Due.heapOf("b00010,9;b00014,9;b0001,9;b0003,9;b20020,9;b00014,8;b10110,9;b10099,9;");
        int[] tenInFourteen = {2, 2, 1, 1, 1, 1, 1, 1, 1, 1};
        int[] fourteenInTen = {0, 0, 0, 1, 1, 1, 1, 1, 1, 1};
        for (int e = 0; e < 10; e++) {
            due.is("10 in 14 by " + e, x.spans(0, 1, e), tenInFourteen[e]);
            due.is("14 in 10 by " + e, x.spans(1, 0, e), fourteenInTen[e]);
            due.is("in a lid by " + e, x.spans(2, 4, e), 0);
            due.is("too deep by " + e, x.spans(0, 5, e), 0);
            due.is("turned by " + e, x.spans(6, 7, e), 0);
        }
        due.is("1 in 3, sure", x.spans(2, 3, 0), 2);
        due.is("1 in 3, perhaps", x.spans(2, 3, 1), 1);
        due.is("3 in 1 by 2", x.spans(3, 2, 2), 1);
        due.is("3 in 1 by 1", x.spans(3, 2, 1), 0);
        x.warm(1);
        due.is("warm", x.spans(0, 1, 1), 1);
        atLeastOneHair();
        int[][] wrong = {{0, 0, 0}, {-1, 0, 0}, {0, -1, 0}, {8, 0, 0}, {0, 8, 0}, {0, 1, -1}, {0, 1, 10}};
        for (int[] w : wrong) {
            due.is("spans wrongly", x.spans(w[0], w[1], w[2]), -1);
        }
    }

    /** An outer width never falls below 1, so its inside never below 1 - 2 + 9 here. */
    private static void atLeastOneHair() {
        BowlsWithin x = Due.heapOf("b0001,9;b1915,9;");
        due.is("outer at one hair", x.spans(0, 1, 7), 2);
        due.is("inner grows past", x.spans(0, 1, 8), 1);
        BowlsWithin y = Due.heapOf("b0001,9;b1912,9;");
        due.is("both at one hair", y.spans(0, 1, 7), 2);
        due.is("one grows past", y.spans(0, 1, 8), 1);
        BowlsWithin z = Due.heapOf("b0009,9;b1011,9;w0;");
        due.is("inner down to one hair", z.spans(0, 1, 8), 1);
        BowlsWithin wide = Due.heapOf("b00099,9;b00099,9;");
        due.is("beyond 99 too", wide.spans(0, 1, 1), 1);
    }

    private static void next() {
        BowlsWithin x = Due.heapOf("b00050,9;b00010,9;b00013,9;b00016,9;");
        due.is("next(0, 0)", x.next(0, 0), 0);
        due.is("next(0, 1)", x.next(0, 1), 0);
        due.is("next(1, 0)", x.next(1, 0), 2);
        due.is("next(1, 1)", x.next(1, 1), 0);
        due.is("next(10, 0)", x.next(10, 0), -1);
        due.is("next(-1, 0)", x.next(-1, 0), -1);
        due.is("next(1, 2)", x.next(1, 2), -1);
        due.is("next(1, -1)", x.next(1, -1), -1);
        due.is("none", new BowlsWithin().next(3, 0), -4);
        due.is("none: many", new BowlsWithin().next(3, 1), -4);
        due.is("none, wrong", new BowlsWithin().next(10, 1), -1);
        BowlsWithin y = Due.heapOf("b00010,9;b00010,9;");
        due.is("both ways count", y.next(2, 1), 2);
        due.is("the least of several", y.next(2, 0), 0);
    }

    private static void from() {
        BowlsWithin x = Due.heapOf("b00030,9;b00010,9;b00031,9;b00026,9;");
        due.is("neither", x.from(2, 8, 10, 9), 2);
        due.is("first alone", x.from(3, 12, 25, 9), 1);
        due.is("other alone", x.from(12, 3, 25, 9), 2);
        due.is("both", x.from(1, 4, 20, 9), 3);
        due.is("none of them", x.from(1, 4, 30, 9), 0);
        due.is("too deep", x.from(1, 0, 20, 10), 2);
        due.is("too shallow", x.from(2, 0, 12, 8), 2);
        due.is("of none both", x.from(0, 0, 99, 99), 3);
        due.is("of none both, least", x.from(0, 0, 1, 1), 3);
        due.is("nothing came", x.count(0), 4);
        int[][] wrong = {
            {16, 0, 5, 5}, {0, 16, 5, 5}, {-1, 0, 5, 5}, {0, -1, 5, 5}, {1, 1, 5, 5}, {3, 6, 5, 5}, {1, 2, 0, 5},
            {1, 2, 100, 5}, {1, 2, 5, 0}, {1, 2, 5, 100}
        };
        for (int[] w : wrong) {
            due.is("from wrongly", x.from(w[0], w[1], w[2], w[3]), -1);
        }
        BowlsWithin shelved = new BowlsWithin();
        shelved.keep(0, 1, 0, 0);
        shelved.comes(0, 10, 9, 0);
        due.is("without a text", shelved.from(1, 0, 11, 9), 2);
        BowlsWithin nine = Due.heapOf(
            "b00090,9;b00080,9;b00070,9;b00060,9;b00050,9;b00040,9;b00030,9;b00020,9;b00010,9;");
        due.is("beyond the room", nine.from(511, 0, 1, 9), 3);
    }

    /** From seed 7 the draws are 19564, 9806, 10868, 22674, 32531, 3365: modulo 7 these are 6, 6, 4, 1, 2, 5. */
    private static void breaks() {
        BowlsWithin x = Due.heapOf("b00010,9;b00014,9;b00020,9;b00024,9;b00028,9;b00034,9;b00042,9;");
        int[] broken = dropped(7, 40, 7);
        for (int n = 1; n <= 40; n++) {
            due.is("broken by " + n, x.breaks(n, 7, 0), broken[n - 1]);
        }
        int[] bySix = {1, 1, 2, 3, 4, 5};
        for (int n = 1; n <= 6; n++) {
            due.is("broken by just " + n, x.breaks(n, 7, 0), bySix[n - 1]);
        }
        due.is("longest of all but the widest", x.breaks(2, 7, 1), 6);
        due.is("longest of the others", x.breaks(5, 7, 1), 3);
        int[] below = dropped(-123456789, 40, 7);
        due.is("a seed below 0", x.breaks(6, -123456789, 0), below[5]);
        due.is("nothing is broken", x.count(0), 7);
        BowlsWithin one = Due.heapOf("b00010,9;");
        due.is("the only one", one.breaks(40, 3, 0), 1);
        due.is("none left", one.breaks(1, 3, 1), 0);
        int[][] wrong = {{0, 0}, {41, 0}, {-1, 0}, {1, 2}, {1, -1}};
        for (int[] w : wrong) {
            due.is("breaks wrongly", x.breaks(w[0], 7, w[1]), -1);
            due.is("breaks wrongly, no bowls", new BowlsWithin().breaks(w[0], 7, w[1]), -1);
        }
        due.is("no bowls", new BowlsWithin().breaks(1, 7, 0), -3);
        due.is("no bowls: many", new BowlsWithin().breaks(40, 7, 1), -3);
    }

    private static int[] dropped(int seed, int n, int bowls) {
        int[] broken = new int[n];
        int set = 0;
        java.math.BigInteger z = java.math.BigInteger.valueOf(seed);
        for (int i = 0; i < n; i++) {
            z = z.multiply(java.math.BigInteger.valueOf(1103515245)).add(java.math.BigInteger.valueOf(12345));
            z = java.math.BigInteger.valueOf(z.intValue());
            int draw = z.clearBit(31).mod(java.math.BigInteger.ONE.shiftLeft(31)).shiftRight(16).intValue();
            set |= 1 << draw % bowls;
            broken[i] = Integer.bitCount(set);
        }
        return broken;
    }
}
