/** Heaps as texts: the terms of them, and promise 2. */
final class EdgesOfTexts {
    private final Edges e;

    EdgesOfTexts(Edges e) {
        this.e = e;
    }

    void ask() {
        statements();
        bowlStatements();
        numbersOfTwoDigits();
        shortStatements();
        latest();
        atLeastOne();
        firstByte();
        tooEarly();
        firstStatement();
        thousands();
        allOrNothing();
        kind1First();
        inTurn();
        heap();
        heapRefused();
    }

    /** Three bowls at warmth 1, and a text on shelf 5. */
    private static BowlsWithin with(String text) {
        BowlsWithin x = Edges.some();
        Due.write(x, 5, text);
        return x;
    }

    private void right(String text, int statements) {
        e.is("heap of '" + text + "'", with(text).heap(5), statements);
    }

    private void fault(String text, int want) {
        e.leaves("heap of '" + text + "'", () -> with(text), x -> x.heap(5), want);
    }

    private void statements() {
        e.says(Edges.TERMS, "A HEAP is read from bytes: STATEMENTS, each with ; behind:");
        right("w5;", 1);
        right("w5;t0;", 2);
        fault("w5", -1002);
        fault("w5t0;", -1002);
        fault("w5:", -1002);
        fault("w5;t0", -1005);
        fault("w5;;", -1003);
        fault(";w5;", -1000);
        fault("w5; t0;", -1003);
        fault("a5;", -1000);
        fault("c5;", -1000);
        fault("s0;", -1000);
        fault("u0;", -1000);
        fault("v0;", -1000);
        fault("y;", -1000);
        fault("W5;", -1000);
    }

    private void came(String text, int... want) {
        BowlsWithin x = with(text);
        e.is("heap of '" + text + "'", x.heap(5), 1);
        for (int what = 0; what < want.length; what++) {
            e.is("bowl(3, " + what + ") by '" + text + "'", x.bowl(3, what), want[what]);
        }
        e.is("how many by '" + text + "'", x.count(0), 4);
    }

    private void bowlStatements() {
        e.says(Edges.TERMS, "b, KIND, FIGURE, TURN (digits), WIDTH, a comma, DEPTH");
        came("b0001,1;", 0, 0, 0, 1, 1);
        came("b79199,99;", 7, 9, 1, 99, 99);
        came("b52134,8;", 5, 2, 1, 34, 8);
        for (int place = 1; place <= 5; place++) {
            String text = "b52134,86;";
            fault(text.substring(0, place) + '/' + text.substring(place + 1), -1000 - place);
            fault(text.substring(0, place) + ':' + text.substring(place + 1), -1000 - place);
        }
        fault("b52134;86;", -1006);
        fault("b52134.86;", -1006);
        fault("b52134-86;", -1006);
        fault("b52134,/6;", -1007);
        fault("b52134,:6;", -1007);
        fault("b52134,8/;", -1008);
        fault("b52134,8:;", -1008);
        fault("b52134,86,", -1009);
    }

    private void numbersOfTwoDigits() {
        e.says(Edges.TERMS, "(1 or 2 digits each, no 0 ahead of another): a BOWL more;");
        came("b0009,9;", 0, 0, 0, 9, 9);
        came("b00010,10;", 0, 0, 0, 10, 10);
        fault("b000,9;", -1004);
        fault("b000100,9;", -1006);
        fault("b00010,;", -1007);
        fault("b00010,100;", -1009);
        fault("b00009,9;", -1005);
        fault("b00000,9;", -1005);
        fault("b0009,09;", -1007);
        fault("b0009,00;", -1007);
        fault("b0000,9;", -2000);
        fault("b0009,0;", -2000);
    }

    private void shortStatements() {
        e.says(Edges.TERMS, "w, WARMTH (a digit);");
        for (int v = 0; v <= 9; v++) {
            BowlsWithin x = with("w" + v + ";");
            e.is("heap of w" + v, x.heap(5), 1);
            e.is("warmth then", x.count(1), v);
        }
        fault("w/;", -1001);
        fault("w:;", -1001);
        fault("w;", -1001);
        fault("w10;", -1002);
        fault("w-1;", -1001);
        e.says(Edges.TERMS, "t, a BOWL (a digit): its TURN is the other one;");
        BowlsWithin x = with("t2;t1;");
        e.is("heap of t2;t1;", x.heap(5), 2);
        e.is("turn of the latest", x.bowl(2, 2), 1);
        e.is("turn of the one ahead", x.bowl(1, 2), 0);
        e.is("turn of the first", x.bowl(0, 2), 0);
        e.is("heap of it again", x.heap(5), 2);
        e.is("turn of the latest again", x.bowl(2, 2), 0);
        fault("t3;", -2000);
        fault("t9;", -2000);
        fault("t/;", -1001);
        fault("t:;", -1001);
        fault("t;", -1001);
        fault("t00;", -1002);
        BowlsWithin nine = Due.heapOf(Edges.NINE);
        e.is("t8; of nine", Due.told(nine, "t8;"), 1);
        e.is("turn of the ninth", nine.bowl(8, 2), 1);
        e.is("t9; of nine", Due.told(nine, "t9;"), -2000);
    }

    private void latest() {
        e.says(Edges.TERMS, "x: the latest BOWL is none.");
        BowlsWithin x = with("x;");
        e.is("heap of x;", x.heap(5), 1);
        e.is("bowl(1, 3)", x.bowl(1, 3), 15);
        e.is("bowl(2, 3)", x.bowl(2, 3), -1);
        right("x;x;x;", 3);
        fault("x;x;x;x;", -2006);
        fault("x", -1001);
        fault("x2;", -1001);
        e.is("x; of none", Due.told(new BowlsWithin(), "x;"), -2000);
    }

    private void atLeastOne() {
        e.says(Edges.TERMS, "At least one STATEMENT.");
        fault("", -1000);
        right("x;", 1);
        fault(";", -1000);
    }

    private void firstByte() {
        e.says(Edges.TERMS, "FAULT: kind 1 the place of the first byte with which no HEAP can go on");
        fault("z", -1000);
        fault("w5;z9;", -1003);
        fault("w5;wz;", -1004);
        fault("w5;w9z", -1005);
        fault("b52134,8;b5213z", -1014);
        fault("b52134,8;b52134z", -1015);
        fault("z;z;", -1000);
        int[] unlike = {0, -1, 127, 128, 256 - 'w', 'w' - 128, 'w' + 128, 'x' + 1};
        for (int sign : unlike) {
            e.leaves("heap of a byte " + sign, () -> bytes(sign, '5', ';'), x -> x.heap(5), -1000);
        }
        e.leaves("heap of a digit and 128", () -> bytes('w', '5' + 128, ';'), x -> x.heap(5), -1001);
        e.is("heap of a byte that keeps its lowest bits", bytes('w' - 256, '5' + 256, ';').heap(5), 1);
    }

    private static BowlsWithin bytes(int... signs) {
        BowlsWithin x = Edges.some();
        Due.list(x, 5, 0, signs);
        return x;
    }

    private void tooEarly() {
        e.says(Edges.TERMS, "(the size, if it ends too early);");
        String[] texts = {"b52134,86;", "b5213,8;", "w5;", "t0;", "x;"};
        for (String text : texts) {
            for (int size = 0; size < text.length(); size++) {
                fault(text.substring(0, size), -1000 - size);
            }
            right(text, 1);
        }
        StringBuilder b = new StringBuilder();
        for (int i = 0; i < 33; i++) {
            b.append("w4;");
        }
        right(b.toString(), 33);
        fault(b + "w", -1100);
        fault(b + "4", -1099);
    }

    private void firstStatement() {
        e.says(Edges.TERMS, "else kind 2 the place of the letter of the first STATEMENT that isn't as told "
            + "(a number out of range, no such BOWL, no room)");
        right("b70010,9;", 1);
        fault("b80010,9;", -2000);
        fault("b90010,9;", -2000);
        right("b00110,9;", 1);
        fault("b00210,9;", -2000);
        fault("b00910,9;", -2000);
        right("b0001,9;", 1);
        fault("b0000,9;", -2000);
        right("b00010,1;", 1);
        fault("b00010,0;", -2000);
        right("w9;t2;", 2);
        fault("w9;t3;", -2003);
        right("w9;x;x;x;", 4);
        fault("w9;x;x;x;x;", -2009);
        String six = Edges.NINE.substring(0, 54);
        right(six, 6);
        fault(six + "b0009,9;", -2054);
        right(six + "x;b0009,9;", 8);
        fault(six + "x;b0009,9;b0009,9;", -2064);
        fault("t3;t4;x;", -2000);
        fault("w9;t4;b80010,9;", -2003);
    }

    private void thousands() {
        e.says(Edges.TERMS, ": -1000 times the kind less the place.");
        fault("q", -1000);
        fault("xq", -1001);
        fault("t3;", -2000);
        fault("x;t2;", -2002);
    }

    private void allOrNothing() {
        e.says(Edges.TERMS, "Without FAULT all of it comes; with one nothing.");
        BowlsWithin x = with("w5;b00099,99;t0;x;x;");
        e.is("without fault", x.heap(5), 5);
        e.is("all of it: bowls", x.count(0), 2);
        e.is("all of it: warmth", x.count(1), 5);
        e.is("all of it: turn", x.bowl(0, 2), 1);
        fault("w5;b00099,99;t0;x;x;t2;", -2020);
        fault("w5;b00099,99;t0;x;x;x;x;x;", -2024);
        fault("w5;b00099,99;t0;x;x;q", -1020);
        fault("w5;b00099,99;t0;x;x;w", -1021);
        e.leaves("no room for the last of seven", () -> with(Edges.NINE.substring(0, 63)), y -> y.heap(5), -2054);
    }

    private void kind1First() {
        e.says(Edges.TERMS, "kind 1 (of any place) goes ahead of kind 2;");
        fault("t3;", -2000);
        fault("t3;q", -1003);
        fault("t3;w", -1004);
        fault("b90910,0;x", -1010);
        fault("q;t3;", -1000);
    }

    private void inTurn() {
        e.says(Edges.TERMS, "STATEMENTS are tried one behind the other, each on what those ahead of it made, "
            + "and the first that can't be done so is told.");
        right("b00099,9;t3;", 2);
        fault("t3;b00099,9;", -2000);
        fault("x;t2;", -2002);
        right("t2;x;", 2);
        fault("x;t2;x;x;x;", -2002);
        right("x;b00099,9;t2;", 3);
        fault("x;x;x;t0;b00099,9;", -2006);
        right("x;x;x;b00099,9;t0;", 5);
        BowlsWithin nine = Due.heapOf(Edges.NINE);
        e.is("no room, then some", Due.told(nine, "b0001,1;x;"), -2000);
        e.is("room, then none", Due.told(nine, "x;b0001,1;b0001,1;"), -2010);
        e.is("room", Due.told(nine, "x;b0001,1;"), 2);
        e.is("the new ninth", nine.bowl(8, 3), 1);
    }

    private void heap() {
        e.says(2, "The text in SHELF d: how many STATEMENTS; the FAULT.");
        for (int d = 0; d <= 7; d++) {
            BowlsWithin x = Edges.some();
            Due.write(x, d, "w5;");
            e.is("heap(" + d + ") of one", x.heap(d), 1);
            e.is("its warmth", x.count(1), 5);
            Due.write(x, d, "b00010,10;b00010,10;b00010,10;b00010,10;b00010,10;b00010,10;x;x;x;x;x;x;x;x;w1;w2;w3;t0;x;w7;t");
            e.is("heap(" + d + ") with a fault", x.heap(d), -1094);
            x.row(d, 0, 96);
            x.put(d, 0, 'w');
            e.is("heap(" + d + ") of zeros", x.heap(d), -1001);
        }
        BowlsWithin x = new BowlsWithin();
        Due.write(x, 0, "b00010,10;b00010,10;b00010,10;b00010,10;b00010,10;b00010,10;b00010,10;b00010,10;b00010,10;x;x;x;x;x;");
        e.is("heap(0) of a hundred bytes", x.heap(0), 14);
        e.is("bowls then", x.count(0), 4);
    }

    private void heapRefused() {
        e.says(2, "-1, -11, -12 (no ROW of bytes).");
        int[] shelves = {-1, 8, Edges.MIN, Edges.MAX};
        for (int d : shelves) {
            e.leaves("heap(" + d + ")", Edges::some, x -> x.heap(d), -1);
        }
        e.leaves("heap of nothing", Edges::some, x -> x.heap(5), -11);
        e.leaves("heap of a bowl", Edges::some, x -> x.heap(1), -12);
        e.leaves("heap of shorts, ill-formed", Edges::some, x -> x.heap(3), -12);
        e.leaves("heap of ints, ill-formed", Edges::some, x -> x.heap(4), -12);
        e.leaves("heap of no ints", Edges::some, x -> x.heap(6), -12);
        for (int sort = 0; sort <= 2; sort++) {
            int s = sort;
            e.is("heap of w5; in sort " + sort, text(s).heap(5), sort == 0 ? 1 : -12);
        }
    }

    private static BowlsWithin text(int sort) {
        BowlsWithin x = Edges.some();
        Due.list(x, 5, sort, 'w', '5', ';');
        return x;
    }
}
