/** Promises 7 to 14: lies, nest, height, longest, fewest, apart, carry, load. */
public final class NestsTest {
    private static final Due due = new Due("nests");

    public static void main(String[] args) {
        lies();
        turns();
        nest();
        height();
        longest();
        fewestIsNotByStepsOverBowls();
        apart();
        carry();
        load();
        oneHairDeep();
        noBowls();
        nineInARow();
        due.end();
    }

    private static void lies() {
        BowlsWithin x = Due.heapOf("b00010,9;b00012,9;b00011,9;b30013,9;b33013,6;b39113,1;");
        due.is("10 in 12", x.lies(0, 1), 1);
        due.is("12 in 10", x.lies(1, 0), 0);
        due.is("10 in 11", x.lies(0, 2), 0);
        due.is("10 in a foot of 13", x.lies(0, 3), 1);
        due.is("11 in a foot of 13", x.lies(2, 3), 0);
        due.is("9 deep in 6 and 3", x.lies(0, 4), 1);
        due.is("9 deep in 1 and 9", x.lies(0, 5), 1);
        x.warm(1);
        due.is("10 in 12, warm", x.lies(0, 1), 0);
        BowlsWithin y = Due.heapOf("b09010,10;b00012,9;b01012,9;b20030,50;b79098,99;");
        due.is("10 deep in 9", y.lies(0, 1), 0);
        due.is("10 deep in 9 and 1", y.lies(0, 2), 1);
        due.is("in a lid", y.lies(1, 3), 0);
        due.is("in a flat lid", y.lies(1, 4), 0);
        int[][] wrong = {{0, 0}, {-1, 0}, {0, -1}, {5, 0}, {0, 5}, {9, 9}, {Integer.MIN_VALUE, 1}};
        for (int[] w : wrong) {
            due.is("lies(" + w[0] + ", " + w[1] + ")", y.lies(w[0], w[1]), -1);
        }
    }

    private static void turns() {
        for (int inner = 0; inner < 8; inner++) {
            for (int outer = 0; outer < 8; outer++) {
                if (outer != 2 && outer != 7) {
                    boolean both = (inner == 1 || inner == 4) && (outer == 1 || outer == 4);
                    String pair = "b" + inner + "0110,9;b" + outer + "0";
                    due.is("kind " + inner + " in " + outer + ", turned",
                        Due.heapOf(pair + "020,9;").lies(0, 1), both ? 0 : 1);
                    due.is("kind " + inner + " in " + outer,
                        Due.heapOf(pair + "120,9;").lies(0, 1), 1);
                }
            }
        }
    }

    private static void nest() {
        BowlsWithin x = Due.heapOf("b00030,9;b00010,9;b00020,9;b00020,9;");
        due.is("nest(0)", x.nest(0), 0);
        due.is("nest(1)", x.nest(1), 1);
        due.is("nest(7)", x.nest(7), 1);
        due.is("nest(11)", x.nest(11), 1);
        due.is("two alike", x.nest(12), 0);
        due.is("nest(15)", x.nest(15), 0);
        due.is("nest(16)", x.nest(16), -1);
        due.is("nest(-1)", x.nest(-1), -1);
        due.is("nest(17)", x.nest(17), -1);
        BowlsWithin y = Due.heapOf("b00010,9;b02020,8;b02030,7;");
        due.is("first not in third", y.lies(0, 2), 1);
        y = Due.heapOf("b00010,10;b02020,8;b00030,8;");
        due.is("inner in middle", y.lies(0, 1), 1);
        due.is("middle in outer", y.lies(1, 2), 1);
        due.is("inner not in outer", y.lies(0, 2), 0);
        due.is("only neighbours count", y.nest(7), 1);
        due.is("without the middle", y.nest(5), 0);
    }

    private static void height() {
        BowlsWithin x = Due.heapOf("b63060,12;b00010,9;b23023,9;b33030,9;");
        due.is("one alone", x.height(1), 12);
        due.is("plain in deep", x.height(3), 13);
        due.is("lid in deep", x.height(5), 14);
        due.is("foot in deep", x.height(9), 16);
        due.is("plain in foot in deep", x.height(11), 17);
        due.is("deep is outermost", x.height(8), 9);
        due.is("lid alone", x.height(4), 9);
        due.is("in a lid", x.height(6), -3);
        due.is("height(0)", x.height(0), -3);
        due.is("height(16)", x.height(16), -1);
        due.is("height(-5)", x.height(-5), -1);
        BowlsWithin y = Due.heapOf("b63020,9;b73020,9;b53020,9;b43020,9;b00060,20;");
        due.is("deep's rise", y.height(17), 28);
        due.is("flat's rise", y.height(18), 21);
        due.is("glued's rise", y.height(20), 24);
        due.is("second's rise", y.height(24), 21);
    }

    private static void longest() {
        BowlsWithin x = Due.heapOf("b00010,9;b20020,9;b00020,9;b00020,9;b00040,9;b00030,3;");
        due.is("most bowls", x.longest(63, 1), 3);
        due.is("then least height, then least bits", x.longest(63, 0), 1 + 4 + 16);
        due.is("of told ones", x.longest(2 + 1 + 16 + 8, 0), 1 + 8 + 16);
        due.is("least height of two", x.longest(1 + 4 + 8, 0), 1 + 4);
        due.is("least height of one", x.longest(16 + 32 + 8, 0), 8 + 16);
        due.is("one told", x.longest(32, 0), 32);
        due.is("shallow one is least", x.longest(32 + 1, 0), 32);
        due.is("longest(0, 0)", x.longest(0, 0), 0);
        due.is("longest(0, 1)", x.longest(0, 1), 0);
        due.is("longest(64, 0)", x.longest(64, 0), -1);
        due.is("longest(-1, 0)", x.longest(-1, 0), -1);
        due.is("longest(1, 2)", x.longest(1, 2), -1);
        due.is("longest(1, -1)", x.longest(1, -1), -1);
        BowlsWithin y = Due.heapOf("b39010,9;b00010,9;b00020,9;");
        due.is("lower goes ahead of lesser bits", y.longest(7, 0), 6);
    }

    private static void fewestIsNotByStepsOverBowls() {
        BowlsWithin x = Due.heapOf("b00010,9;b00020,9;b00030,9;b00015,9;b00025,9;");
        due.is("all in one", x.fewest(), 1);
        x.warm(9);
        due.is("warm", x.fewest(), 3);
        BowlsWithin y = Due.heapOf("b00010,10;b02020,8;b00030,8;b02021,8;");
        due.is("a bowl between is in one nest alone", y.fewest(), 2);
        BowlsWithin z = Due.heapOf("b00010,10;b00010,10;b02020,8;b00030,8;b00030,8;");
        due.is("both need the middle", z.fewest(), 3);
    }

    private static void apart() {
        BowlsWithin x = Due.heapOf("b00010,9;b20020,9;b00020,9;b00020,9;b00040,9;b00030,3;");
        due.is("apart(0)", x.apart(0), 4);
        due.is("apart(1)", x.apart(1), 2 + 4 + 8 + 32);
        due.is("apart(2)", x.apart(2), -1);
        due.is("apart(-1)", x.apart(-1), -1);
        BowlsWithin y = Due.heapOf("b00010,10;b02020,8;b00030,8;");
        due.is("not in outer", y.apart(0), 2);
        due.is("which", y.apart(1), 5);
        due.is("all", Due.heapOf("b00010,9;b00010,9;b00011,9;").apart(1), 7);
        BowlsWithin z = Due.heapOf("b00030,8;b00010,8;b00020,8;");
        due.is("least bits", z.apart(1), 1);
    }

    private static void carry() {
        due.is("one in other", Due.heapOf("b00010,9;b00020,9;").carry(), 10);
        due.is("alone is lower", Due.heapOf("b69010,3;b00020,9;").carry(), 12);
        due.is("outer takes the dearer", Due.heapOf("b00010,9;b00010,20;b00030,30;").carry(), 9 + 31);
        due.is("three", Due.heapOf("b00010,9;b00020,9;b00030,9;").carry(), 11);
        BowlsWithin x = Due.heapOf("b00010,9;b00020,9;b00030,9;w9;");
        due.is("warm", x.carry(), 19);
    }

    private static void load() {
        BowlsWithin x = Due.heapOf("b00010,9;b00020,9;b00030,9;b00040,9;");
        due.is("load(8)", x.load(8), -4);
        due.is("load(9)", x.load(9), 4);
        due.is("load(10)", x.load(10), 2);
        due.is("load(11)", x.load(11), 2);
        due.is("load(12)", x.load(12), 1);
        due.is("load(99)", x.load(99), 1);
        due.is("load(0)", x.load(0), -1);
        due.is("load(100)", x.load(100), -1);
        due.is("load(-1)", x.load(-1), -1);
        due.is("deepest alone", Due.heapOf("b00010,99;b00020,99;").load(99), 2);
    }

    private static void oneHairDeep() {
        BowlsWithin x = Due.heapOf("b0001,1;");
        due.is("shallowest nest", x.nest(1), 1);
        due.is("shallowest height", x.height(1), 1);
        due.is("shallowest longest", x.longest(1, 0), 1);
        due.is("shallowest fewest", x.fewest(), 1);
        due.is("shallowest carried", x.carry(), 1);
        due.is("shallowest loaded", x.load(1), 1);
        due.is("shallowest whole", x.whole(1), 1);
    }

    private static void noBowls() {
        BowlsWithin x = new BowlsWithin();
        due.is("nest(0)", x.nest(0), 0);
        due.is("nest(1)", x.nest(1), -1);
        due.is("height(0)", x.height(0), -3);
        due.is("longest(0, 0)", x.longest(0, 0), 0);
        due.is("longest(1, 0)", x.longest(1, 0), -1);
        due.is("fewest()", x.fewest(), 0);
        due.is("apart(0)", x.apart(0), 0);
        due.is("apart(1)", x.apart(1), 0);
        due.is("carry()", x.carry(), 0);
        due.is("load(1)", x.load(1), 0);
    }

    private static void nineInARow() {
        BowlsWithin x = Due.heapOf(
            "b00090,9;b00080,9;b00070,9;b00060,9;b00050,9;b00040,9;b00030,9;b00020,9;b00010,9;");
        due.is("nine as one", x.nest(511), 1);
        due.is("nine high", x.height(511), 17);
        due.is("nine longest", x.longest(511, 0), 511);
        due.is("nine many", x.longest(511, 1), 9);
        due.is("nine fewest", x.fewest(), 1);
        due.is("nine carried", x.carry(), 17);
        due.is("nine loaded", x.load(13), 2);
        due.is("nine apart", x.apart(1), 1);
        due.is("nine in pairs", x.count(2), 36);
        due.is("nest(512)", x.nest(512), -1);
    }
}
