/** Promises 1 to 6: a new object, texts, bowls, warmth and turn. */
public final class HeapsTest {
    private static final Due due = new Due("heaps");

    public static void main(String[] args) {
        newObject();
        textsThatCome();
        faultsOfForm();
        faultsOfSense();
        refusalsOfTexts();
        kinds();
        comes();
        warm();
        turn();
        due.end();
    }

    private static void newObject() {
        BowlsWithin x = new BowlsWithin();
        for (int what = 0; what < 4; what++) {
            due.is("new count(" + what + ")", x.count(what), 0);
        }
        due.is("new bowl(0, 0)", x.bowl(0, 0), -1);
        due.is("new restore()", x.restore(), -3);
        for (int d = 0; d < 8; d++) {
            due.is("new price(" + d + ")", x.price(d), -11);
        }
    }

    private static void textsThatCome() {
        BowlsWithin x = new BowlsWithin();
        due.is("heap of two", Due.told(x, "b00099,1;b7911,99;"), 2);
        isBowl(x, 0, 0, 0, 0, 99, 1);
        isBowl(x, 1, 7, 9, 1, 1, 99);
        due.is("text stays", x.heap(0), 2);
        due.is("texts add", x.count(0), 4);
        due.is("latest goes", Due.told(x, "x;x;x;w7;t0;"), 5);
        due.is("one is left", x.count(0), 1);
        due.is("warm", x.count(1), 7);
        isBowl(x, 0, 0, 0, 1, 99, 1);
        due.is("tried in turn", Due.told(x, "b12010,9;t1;x;b3405,6;t1;"), 5);
        isBowl(x, 1, 3, 4, 1, 5, 6);
        due.is("nine", Due.told(new BowlsWithin(), nine() + "x;b0009,9;"), 11);
    }

    private static void isBowl(BowlsWithin x, int bowl, int... want) {
        for (int what = 0; what < want.length; what++) {
            due.is("bowl(" + bowl + ", " + what + ")", x.bowl(bowl, what), want[what]);
        }
    }

    private static String nine() {
        StringBuilder b = new StringBuilder();
        for (int i = 0; i < 9; i++) {
            b.append("b0005,").append(i + 1).append(';');
        }
        return b.toString();
    }

    private static void refused(String text, int want) {
        BowlsWithin x = Due.heapOf("b12017,9;w3;");
        due.is("heap of '" + text + "'", Due.told(x, text), want);
        due.is("nothing came of '" + text + "'", x.count(0) * 10 + x.count(1), 13);
        isBowl(x, 0, 1, 2, 0, 17, 9);
    }

    private static void faultsOfForm() {
        refused("", -1000);
        refused("z;", -1000);
        refused(";", -1000);
        refused("b", -1001);
        refused("bx", -1001);
        refused("b0", -1002);
        refused("b000", -1004);
        refused("b000,", -1004);
        refused("b00010", -1006);
        refused("b000100,9;", -1006);
        refused("b00001,9;", -1005);
        refused("b00010;", -1006);
        refused("b00010,", -1007);
        refused("b00010,;", -1007);
        refused("b00010,01;", -1008);
        refused("b00010,100;", -1009);
        refused("b00010,9", -1008);
        refused("w", -1001);
        refused("w10;", -1002);
        refused("t;", -1001);
        refused("t0", -1002);
        refused("x", -1001);
        refused("x0;", -1001);
        refused("x; x;", -1002);
        refused("w5;B00010,9;", -1003);
        refused("w\u00b5;", -1001);
        refused("b800" + "10,9;t9;q", -1012);
    }

    private static void faultsOfSense() {
        refused("b80010,9;", -2000);
        refused("b00210,9;", -2000);
        refused("b0000,9;", -2000);
        refused("b00010,0;", -2000);
        refused("w5;t1;", -2003);
        refused("x;x;", -2002);
        refused("w5;x;t0;", -2005);
        refused("b00010,9;b90010,9;x;x;x;x;", -2009);
        refused(nine(), -2064);
    }

    private static void refusalsOfTexts() {
        BowlsWithin x = new BowlsWithin();
        due.is("heap(-1)", x.heap(-1), -1);
        due.is("heap(8)", x.heap(8), -1);
        due.is("heap of nothing", x.heap(0), -11);
        x.keep(0, 1, 0, 0);
        due.is("heap of a bowl", x.heap(0), -12);
        Due.list(x, 0, 1, 'w', '5', ';');
        due.is("heap of shorts", x.heap(0), -12);
        Due.list(x, 0, 0, 'w' + 256, '5' - 256, ';');
        due.is("heap of lowest bits", x.heap(0), 1);
    }

    private static void kinds() {
        BowlsWithin x = Due.heapOf("b03020,9;b03120,9;b13020,9;b13120,9;b23120,9;b33120,9;b43020,9;b43120,9;b2903,9;");
        measured(x, 0, 20, 18, 1);
        measured(x, 1, 20, 18, 1);
        measured(x, 2, 20, 18, 1);
        measured(x, 3, 23, 21, 1);
        measured(x, 4, 17, 0, 2);
        measured(x, 5, 20, 17, 4);
        measured(x, 6, 21, 18, 1);
        measured(x, 7, 24, 21, 1);
        measured(x, 8, 1, 0, 2);
        x.warm(4);
        measured(x, 0, 20, 14, 1);
        measured(x, 3, 23, 17, 1);
        measured(x, 4, 17, 0, 2);
        measured(x, 5, 20, 13, 4);
        measured(x, 7, 24, 17, 1);
        BowlsWithin y = Due.heapOf("b53120,9;b63120,9;b73120,9;b79020,9;b0001,1;w9;");
        measured(y, 0, 22, 5, 4);
        measured(y, 1, 20, 8, 8);
        measured(y, 2, 17, 0, 1);
        measured(y, 3, 11, 0, 1);
        measured(y, 4, 1, -10, 1);
        int[][] wrong = {{-1, 0}, {5, 0}, {0, -1}, {0, 8}, {Integer.MIN_VALUE, 0}, {0, Integer.MAX_VALUE}};
        for (int[] w : wrong) {
            due.is("bowl(" + w[0] + ", " + w[1] + ")", y.bowl(w[0], w[1]), -1);
        }
    }

    private static void measured(BowlsWithin x, int bowl, int outside, int inside, int rise) {
        due.is("outside of " + bowl, x.bowl(bowl, 5), outside);
        due.is("inside of " + bowl, x.bowl(bowl, 6), inside);
        due.is("rise of " + bowl, x.bowl(bowl, 7), rise);
    }

    private static void comes() {
        BowlsWithin x = new BowlsWithin();
        x.keep(3, 1, 6, 5);
        due.is("comes first", x.comes(3, 99, 1, 1), 0);
        due.is("comes again", x.comes(3, 1, 99, 0), 1);
        isBowl(x, 0, 6, 5, 1, 99, 1);
        isBowl(x, 1, 6, 5, 0, 1, 99);
        int[][] wrong = {
            {-1, 5, 5, 0}, {8, 5, 5, 0}, {3, 0, 5, 0}, {3, 100, 5, 0}, {3, 5, 0, 0}, {3, 5, 100, 0}, {3, 5, 5, -1},
            {3, 5, 5, 2}, {4, 0, 5, 0}, {5, 5, 5, 7}
        };
        Due.list(x, 5, 0, 1);
        for (int[] w : wrong) {
            due.is("comes wrongly", x.comes(w[0], w[1], w[2], w[3]), -1);
        }
        due.is("comes from nothing", x.comes(4, 5, 5, 0), -11);
        due.is("comes from a row", x.comes(5, 5, 5, 0), -12);
        for (int i = 2; i < 9; i++) {
            due.is("comes as", x.comes(3, 5, 5, 0), i);
        }
        due.is("no room", x.comes(3, 5, 5, 0), -2);
        due.is("no room, nothing held", x.comes(4, 5, 5, 0), -11);
        due.is("no room, a row", x.comes(5, 5, 5, 0), -12);
        due.is("nine", x.count(0), 9);
        due.is("shelf keeps it", x.price(3), 13);
    }

    private static void warm() {
        BowlsWithin x = new BowlsWithin();
        due.is("warm(9)", x.warm(9), 0);
        due.is("warm(10)", x.warm(10), -1);
        due.is("warm(-1)", x.warm(-1), -1);
        due.is("warm(0)", x.warm(0), 9);
        due.is("warm(4)", x.warm(4), 0);
        due.is("count(1)", x.count(1), 4);
    }

    private static void turn() {
        BowlsWithin x = Due.heapOf("b00010,9;b13110,9;");
        due.is("turn(0)", x.turn(0), 1);
        due.is("turn(0) again", x.turn(0), 0);
        due.is("turn(1)", x.turn(1), 0);
        due.is("outside unturned", x.bowl(1, 5), 10);
        due.is("turn(-1)", x.turn(-1), -1);
        due.is("turn(2)", x.turn(2), -1);
        due.is("turn of 0 stays", x.bowl(0, 2), 0);
    }
}
