/** Promises 15 to 17: whole, throwsNew, helps. */
public final class SetsTest {
    private static final Due due = new Due("sets");

    public static void main(String[] args) {
        whole();
        throwsNew();
        helps();
        due.end();
    }

    private static void whole() {
        BowlsWithin x = Due.heapOf("b00010,9;b00010,9;b00020,9;b00020,9;b00030,9;");
        due.is("whole(1)", x.whole(1), 5);
        due.is("whole(2)", x.whole(2), 2);
        due.is("whole(3)", x.whole(3), 1);
        due.is("whole(4)", x.whole(4), 0);
        due.is("whole(9)", x.whole(9), 0);
        due.is("whole(0)", x.whole(0), -1);
        due.is("whole(10)", x.whole(10), -1);
        due.is("whole(-1)", x.whole(-1), -1);
        BowlsWithin nine = Due.heapOf(
            "b00090,9;b00080,9;b00070,9;b00060,9;b00050,9;b00040,9;b00030,9;b00020,9;b00010,9;");
        int[] sets = {9, 4, 3, 2, 1, 1, 1, 1, 1};
        for (int k = 1; k <= 9; k++) {
            due.is("nine whole(" + k + ")", nine.whole(k), sets[k - 1]);
        }
        due.is("none", new BowlsWithin().whole(1), 0);
    }

    private static void throwsNew() {
        due.is("no bowls", new BowlsWithin().throwsNew(), -4);
        due.is("one", Due.heapOf("b00010,9;").throwsNew(), 0);
        due.is("a lid is one", Due.heapOf("b20010,9;").throwsNew(), 0);
        due.is("two turns", Due.heapOf("b10010,9;b10114,9;").throwsNew(), 1);
        due.is("too near", Due.heapOf("b10010,9;b10113,9;").throwsNew(), -4);
        due.is("too near when warm", Due.heapOf("b10010,9;b10114,9;w1;").throwsNew(), -4);
        due.is("warm", Due.heapOf("b10010,9;b10116,9;w1;").throwsNew(), 1);
        due.is("three turns", Due.heapOf("b10010,9;b10120,9;b40030,9;").throwsNew(), 2);
        due.is("four turns", Due.heapOf("b10010,9;b10120,9;b40030,9;b40140,9;").throwsNew(), -4);
        due.is("too deep", Due.heapOf("b00010,9;b00020,8;").throwsNew(), -4);
        due.is("alike", Due.heapOf("b00010,9;b00010,9;").throwsNew(), -4);
        due.is("too wide for new ones", Due.heapOf("b19198,9;b19099,9;t1;t0;").throwsNew(), -4);
        BowlsWithin wide = Due.heapOf("b10095,9;b19199,9;");
        due.is("ninety-seven goes between", wide.throwsNew(), 1);
        due.is("ninety-nine goes between", Due.heapOf("b10097,9;b19199,9;").throwsNew(), 1);
        BowlsWithin wider = Due.heapOf("b10098,9;b19199,9;");
        due.is("a hundred is none", wider.throwsNew(), -4);
        BowlsWithin nine = Due.heapOf(
            "b00090,9;b00080,9;b00070,9;b00060,9;b00050,9;b10040,9;b10130,9;b00020,9;b00010,9;");
        due.is("beyond the room", nine.throwsNew(), 1);
        due.is("nothing is thrown", nine.count(0), 9);
        BowlsWithin shelved = new BowlsWithin();
        shelved.keep(0, 1, 1, 0);
        shelved.comes(0, 10, 9, 0);
        shelved.comes(0, 14, 9, 1);
        due.is("without a text", shelved.throwsNew(), 1);
    }

    private static void helps() {
        due.is("none: width", new BowlsWithin().helps(99, 0), 1);
        due.is("none: many", new BowlsWithin().helps(1, 1), 1);
        BowlsWithin x = Due.heapOf("b00010,9;b00014,9;b00030,9;");
        due.is("as innermost", x.helps(9, 0), 1);
        due.is("as innermost: many", x.helps(9, 1), 4);
        due.is("too deep inside", x.helps(10, 0), 32);
        due.is("too deep inside: many", x.helps(10, 1), 4);
        BowlsWithin y = Due.heapOf("b00099,9;b00099,9;b00098,5;");
        due.is("by the shallow one", y.helps(6, 0), 1);
        due.is("by the shallow one: many", y.helps(6, 1), 2);
        due.is("too deep for any", y.helps(10, 0), 1);
        due.is("too deep for any: many", y.helps(10, 1), 1);
        BowlsWithin z = Due.heapOf("b1001,5;b10120,5;");
        due.is("between", z.helps(5, 0), 3);
        due.is("between: many", z.helps(5, 1), 3);
        z.warm(2);
        due.is("between, warm", z.helps(5, 0), 5);
        BowlsWithin nine = Due.heapOf(
            "b00090,9;b00080,9;b00070,9;b00060,9;b00050,9;b00040,9;b00030,9;b00020,9;b00010,9;");
        due.is("beyond the room", nine.helps(9, 1), 10);
        due.is("width", nine.helps(9, 0), 1);
        due.is("nothing came", nine.count(0), 9);
        due.is("as wide as can be", Due.heapOf("b00097,9;").helps(10, 0), 99);
        due.is("its figure is 0", Due.heapOf("b00097,9;").helps(8, 1), 2);
        due.is("its figure is 0: width", Due.heapOf("b20030,9;").helps(8, 1), 1);
        BowlsWithin down = Due.heapOf("b00030,9;b00020,9;b00010,9;");
        due.is("as outermost", down.helps(10, 0), 32);
        due.is("as outermost: many", down.helps(10, 1), 4);
        BowlsWithin broad = Due.heapOf("b19199,9;b19195,9;b19191,9;");
        due.is("of no help", broad.helps(99, 1), 3);
        due.is("of no help: width", broad.helps(99, 0), 1);
        int[][] wrong = {{0, 0}, {100, 0}, {5, 2}, {5, -1}, {-1, 1}};
        for (int[] w : wrong) {
            due.is("helps(" + w[0] + ", " + w[1] + ")", x.helps(w[0], w[1]), -1);
        }
    }
}
