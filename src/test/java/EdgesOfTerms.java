/** The terms: bowls and kinds, what they measure, lying in one another, nests, prices, shelves; what is said once more. */
final class EdgesOfTerms {
    private static final int OUTSIDE = 5;
    private static final int INSIDE = 6;
    private static final int RISE = 7;

    private final Edges e;

    EdgesOfTerms(Edges e) {
        this.e = e;
    }

    void ask() {
        calls();
        bowls();
        kinds();
        figures();
        hairs();
        turnsAndWarmth();
        outside();
        inside();
        rise();
        liesInByWidth();
        liesInByDepth();
        liesInByTurn();
        nest();
        height();
        price();
        shelves();
        rows();
        lowestBits();
        refusals();
        saidOnceMore();
        severalRefusals();
    }

    private void calls() {
        e.says(Edges.WHAT_IT_IS, "An object is used for at most 512 calls after it has been made; "
            + "what later calls answer is free.");
        BowlsWithin x = Due.heapOf("b00010,9;b00012,9;");
        for (int call = 20; call < 511; call++) {
            e.is("call " + (call + 1), x.fewest(), 1);
        }
        e.is("the last call", x.longest(3, 0), 3);
    }

    private void bowls() {
        e.says(Edges.TERMS, "BOWLS 0 .. 8 as they come");
        BowlsWithin x = new BowlsWithin();
        x.keep(0, 1, 0, 0);
        for (int bowl = 0; bowl <= 8; bowl++) {
            e.is("comes", x.comes(0, 10 + bowl, 9, 0), bowl);
        }
        e.is("a tenth comes", x.comes(0, 50, 9, 0), -2);
        for (int bowl = 0; bowl <= 8; bowl++) {
            e.is("bowl(" + bowl + ", 3)", x.bowl(bowl, 3), 10 + bowl);
        }
        e.is("bowl(9, 3)", x.bowl(9, 3), -1);
        e.is("bowl(-1, 3)", x.bowl(-1, 3), -1);
    }

    private void kinds() {
        e.says(Edges.TERMS, "of KINDS: 0 BOWL; 1 OVAL under BOWL; 2 LID under BOWL; 3 FOOT under BOWL; 4 SECOND under OVAL; "
            + "5 GLUED under FOOT; 6 DEEP under FOOT; 7 FLAT under LID:");
        BowlsWithin x = new BowlsWithin();
        for (int kind = 0; kind <= 7; kind++) {
            e.is("keep of kind " + kind, x.keep(0, 1, kind, 3), 0);
            e.is("comes of kind " + kind, x.comes(0, 20, 9, 1), kind);
            e.is("kind", x.bowl(kind, 0), kind);
        }
        int[] wrong = {-1, 8, Edges.MIN, Edges.MAX};
        for (int kind : wrong) {
            e.leaves("keep of kind " + kind, Edges::some, y -> y.keep(1, 1, kind, 3), -1);
        }
        e.is("a text's kind 7", Due.told(new BowlsWithin(), "b70020,9;"), 1);
        e.is("a text's kind 8", Due.told(new BowlsWithin(), "b80020,9;"), -2000);
        e.is("a text's kind 9", Due.told(new BowlsWithin(), "b90020,9;"), -2000);
    }

    private void figures() {
        e.says(Edges.TERMS, "a FIGURE (0 .. 9);");
        BowlsWithin x = new BowlsWithin();
        for (int figure = 0; figure <= 9; figure++) {
            e.is("keep with figure " + figure, x.keep(0, 1, 1, figure), 0);
            e.is("price with figure " + figure, x.price(0), 4 + figure);
        }
        int[] wrong = {-1, 10, Edges.MIN, Edges.MAX};
        for (int figure : wrong) {
            e.leaves("keep with figure " + figure, Edges::some, y -> y.keep(1, 1, 1, figure), -1);
        }
        e.is("a text's figure 0", Due.heapOf("b00020,9;").bowl(0, 1), 0);
        e.is("a text's figure 9", Due.heapOf("b09020,9;").bowl(0, 1), 9);
    }

    private void hairs() {
        int[] right = {1, 99};
        int[] wrong = {0, 100, -1, Edges.MIN, Edges.MAX};
        e.says(Edges.TERMS, "each has WIDTH (1 .. 99 hairs),");
        for (int w : right) {
            BowlsWithin x = Edges.some();
            e.is("comes, width " + w, x.comes(1, w, 9, 0), 3);
            e.is("its width", x.bowl(3, 3), w);
            e.is("a text's width", Due.heapOf("b000" + w + ",9;").bowl(0, 3), w);
        }
        for (int w : wrong) {
            e.leaves("comes, width " + w, Edges::some, x -> x.comes(1, w, 9, 0), -1);
        }
        e.is("a text's width 0", Due.told(new BowlsWithin(), "b0000,9;"), -2000);
        e.says(Edges.TERMS, "DEPTH (1 .. 99), TURN (0, 1).");
        for (int d : right) {
            BowlsWithin x = Edges.some();
            e.is("comes, depth " + d, x.comes(1, 9, d, 0), 3);
            e.is("its depth", x.bowl(3, 4), d);
            e.is("a text's depth", Due.heapOf("b0009," + d + ";").bowl(0, 4), d);
        }
        for (int d : wrong) {
            e.leaves("comes, depth " + d, Edges::some, x -> x.comes(1, 9, d, 0), -1);
        }
        e.is("a text's depth 0", Due.told(new BowlsWithin(), "b0009,0;"), -2000);
    }

    private void turnsAndWarmth() {
        e.says(Edges.TERMS, "TURN (0, 1).");
        for (int turn = 0; turn <= 1; turn++) {
            BowlsWithin x = Edges.some();
            e.is("comes, turn " + turn, x.comes(1, 9, 9, turn), 3);
            e.is("its turn", x.bowl(3, 2), turn);
            e.is("a text's turn", Due.heapOf("b00" + turn + "9,9;").bowl(0, 2), turn);
        }
        int[] wrong = {-1, 2, Edges.MIN, Edges.MAX};
        for (int turn : wrong) {
            e.leaves("comes, turn " + turn, Edges::some, x -> x.comes(1, 9, 9, turn), -1);
        }
        e.is("a text's turn 2", Due.told(new BowlsWithin(), "b0029,9;"), -2000);
        e.says(Edges.TERMS, "WARMTH (0 .. 9; 0 at first).");
        BowlsWithin x = new BowlsWithin();
        e.is("at first", x.count(1), 0);
        e.is("warm(9)", x.warm(9), 0);
        e.is("at 9", x.count(1), 9);
        e.is("warm(0)", x.warm(0), 9);
        e.is("at 0", x.count(1), 0);
        int[] outOf = {-1, 10, Edges.MIN, Edges.MAX};
        for (int v : outOf) {
            e.leaves("warm(" + v + ")", Edges::some, y -> y.warm(v), -1);
        }
    }

    /** One measure of one bowl alone. */
    private void measure(int what, int kind, int figure, int turn, int width, int warmth, int want) {
        BowlsWithin x = new BowlsWithin();
        x.keep(0, 1, kind, figure);
        x.comes(0, width, 9, turn);
        x.warm(warmth);
        e.is("bowl(0, " + what + ") of kind " + kind + ", figure " + figure + ", turn " + turn + ", width " + width
            + " at " + warmth, x.bowl(0, what), want);
    }

    private void outside() {
        e.says(Edges.TERMS, "OUTSIDE (how wide it is outside): BOWL WIDTH;");
        measure(OUTSIDE, 0, 0, 0, 1, 0, 1);
        measure(OUTSIDE, 0, 9, 1, 99, 9, 99);
        e.says(Edges.TERMS, "OVAL a BOWL's, and FIGURE more if its TURN is 1;");
        measure(OUTSIDE, 1, 9, 0, 99, 9, 99);
        measure(OUTSIDE, 1, 9, 1, 99, 9, 108);
        measure(OUTSIDE, 1, 0, 1, 99, 0, 99);
        measure(OUTSIDE, 1, 1, 1, 1, 0, 2);
        measure(INSIDE, 1, 9, 0, 20, 0, 18);
        measure(INSIDE, 1, 9, 1, 20, 0, 27);
        measure(INSIDE, 1, 0, 1, 20, 9, 9);
        e.says(Edges.TERMS, "LID a BOWL's less FIGURE, 1 at least;");
        int[][] lids = {{11, 9, 2}, {10, 9, 1}, {9, 9, 1}, {8, 9, 1}, {1, 9, 1}, {1, 0, 1}, {1, 1, 1}, {2, 1, 1},
            {3, 1, 2}, {99, 0, 99}, {99, 9, 90}};
        for (int[] lid : lids) {
            measure(OUTSIDE, 2, lid[1], 1, lid[0], 9, lid[2]);
        }
        e.says(Edges.TERMS, "FOOT a BOWL's; SECOND an OVAL's and 1; GLUED a FOOT's and 2; DEEP as a FOOT; FLAT as a LID.");
        measure(OUTSIDE, 3, 9, 1, 99, 9, 99);
        measure(OUTSIDE, 4, 9, 0, 99, 9, 100);
        measure(OUTSIDE, 4, 9, 1, 99, 9, 109);
        measure(OUTSIDE, 4, 0, 1, 1, 0, 2);
        measure(OUTSIDE, 5, 9, 1, 99, 9, 101);
        measure(OUTSIDE, 5, 0, 0, 1, 0, 3);
        measure(OUTSIDE, 6, 9, 1, 99, 9, 99);
        for (int[] lid : lids) {
            measure(OUTSIDE, 7, lid[1], 1, lid[0], 9, lid[2]);
        }
    }

    private void inside() {
        e.says(Edges.TERMS, "INSIDE (how wide something in it may be outside): BOWL WIDTH less 2 and WARMTH;");
        measure(INSIDE, 0, 9, 1, 99, 0, 97);
        measure(INSIDE, 0, 9, 1, 99, 9, 88);
        measure(INSIDE, 0, 0, 0, 3, 0, 1);
        measure(INSIDE, 0, 0, 0, 2, 0, 0);
        measure(INSIDE, 0, 0, 0, 1, 0, -1);
        measure(INSIDE, 0, 0, 0, 1, 9, -10);
        e.says(Edges.TERMS, "LID 0 (nothing lies in it);");
        for (int kind = 2; kind <= 7; kind += 5) {
            measure(INSIDE, kind, 0, 0, 99, 0, 0);
            measure(INSIDE, kind, 9, 1, 99, 9, 0);
            measure(INSIDE, kind, 9, 1, 1, 9, 0);
            e.is("the narrowest in kind " + kind, Due.heapOf("b0001,1;b" + kind + "9099,99;").lies(0, 1), 0);
            e.is("the narrowest lid in kind " + kind, Due.heapOf("b2901,1;b" + kind + "9099,99;").lies(0, 1), 0);
        }
        e.says(Edges.TERMS, "FOOT a BOWL's less 1; SECOND as an OVAL; GLUED a FOOT's less FIGURE; DEEP as a FOOT; FLAT as a LID.");
        measure(INSIDE, 3, 9, 1, 99, 0, 96);
        measure(INSIDE, 3, 9, 1, 99, 9, 87);
        measure(INSIDE, 4, 9, 0, 99, 0, 97);
        measure(INSIDE, 4, 9, 1, 99, 9, 97);
        measure(INSIDE, 5, 0, 1, 99, 0, 96);
        measure(INSIDE, 5, 9, 1, 99, 9, 78);
        measure(INSIDE, 5, 9, 0, 1, 9, -20);
        measure(INSIDE, 6, 9, 1, 99, 0, 96);
        measure(INSIDE, 6, 9, 1, 99, 9, 87);
    }

    private void rise() {
        e.says(Edges.TERMS, "RISE (how much higher it stands when it lies in another one, than that): BOWL 1; "
            + "OVAL as a BOWL; LID a BOWL's and 1; FOOT a BOWL's and FIGURE; SECOND as an OVAL; GLUED as a FOOT; "
            + "DEEP twice a FOOT's; FLAT half of a LID's, cut.");
        int[] with0 = {1, 1, 2, 1, 1, 1, 2, 1};
        int[] with9 = {1, 1, 2, 10, 1, 10, 20, 1};
        for (int kind = 0; kind <= 7; kind++) {
            measure(RISE, kind, 0, 0, 99, 0, with0[kind]);
            measure(RISE, kind, 9, 1, 1, 9, with9[kind]);
        }
    }

    private static BowlsWithin two(String inner, String outer) {
        return Due.heapOf("b" + inner + ";b" + outer + ";");
    }

    private void liesInByWidth() {
        e.says(Edges.TERMS, "One LIES IN another one, if its OUTSIDE is no more than that one's INSIDE,");
        int[] insides = {36, 39, 0, 35, 39, 32, 35, 0};
        for (int kind = 0; kind <= 7; kind++) {
            String outer = kind + "3140,9;w2";
            if (insides[kind] > 0) {
                e.is("as wide as inside of kind " + kind, two("000" + insides[kind] + ",9", outer).lies(0, 1), 1);
            }
            e.is("a hair more than in kind " + kind, two("000" + (insides[kind] + 1) + ",9", outer).lies(0, 1), 0);
        }
        int[] outsides = {20, 23, 17, 20, 24, 22, 20, 17};
        for (int kind = 0; kind <= 7; kind++) {
            String inner = kind + "3120,9";
            e.is("kind " + kind + " in as wide", two(inner, "000" + (outsides[kind] + 2) + ",9").lies(0, 1), 1);
            e.is("kind " + kind + " in a hair less", two(inner, "000" + (outsides[kind] + 1) + ",9").lies(0, 1), 0);
        }
        e.is("1 in 3", two("0001,9", "0003,9").lies(0, 1), 1);
        e.is("1 in 2", two("0001,9", "0002,9").lies(0, 1), 0);
        e.is("97 in 99", two("00097,9", "00099,9").lies(0, 1), 1);
        e.is("98 in 99", two("00098,9", "00099,9").lies(0, 1), 0);
        e.is("1 in 12 at 9", two("0001,9", "00012,9;w9").lies(0, 1), 1);
        e.is("1 in 11 at 9", two("0001,9", "00011,9;w9").lies(0, 1), 0);
    }

    private void liesInByDepth() {
        e.says(Edges.TERMS, "its DEPTH no more than that one's and FIGURE of that one together,");
        int[] outer = {0, 1, 3, 4, 5, 6};
        for (int kind : outer) {
            e.is("18 in 9 and 9, kind " + kind, two("00010,18", kind + "9040,9").lies(0, 1), 1);
            e.is("19 in 9 and 9, kind " + kind, two("00010,19", kind + "9040,9").lies(0, 1), 0);
            e.is("9 in 9 and 0, kind " + kind, two("00010,9", kind + "0040,9").lies(0, 1), 1);
            e.is("10 in 9 and 0, kind " + kind, two("00010,10", kind + "0040,9").lies(0, 1), 0);
        }
        e.is("its own figure is of no help", two("09010,10", "00040,9").lies(0, 1), 0);
        e.is("99 in 90 and 9", two("00010,99", "09040,90").lies(0, 1), 1);
        e.is("99 in 89 and 9", two("00010,99", "09040,89").lies(0, 1), 0);
        e.is("1 in 1", two("00010,1", "00040,1").lies(0, 1), 1);
        e.is("2 in 1", two("00010,2", "00040,1").lies(0, 1), 0);
    }

    private void liesInByTurn() {
        e.says(Edges.TERMS, "and, of KINDS 1 and 4 alone in one of KINDS 1 and 4, both have one TURN.");
        for (int inner = 0; inner <= 7; inner++) {
            for (int outer = 0; outer <= 7; outer++) {
                boolean mind = (inner == 1 || inner == 4) && (outer == 1 || outer == 4);
                for (int turns = 0; turns < 4 && outer != 2 && outer != 7; turns++) {
                    int one = turns & 1;
                    int other = turns >> 1;
                    e.is("kind " + inner + " of turn " + one + " in kind " + outer + " of turn " + other,
                        two(inner + "1" + one + "10,9", outer + "1" + other + "40,9").lies(0, 1),
                        mind && one != other ? 0 : 1);
                }
            }
        }
    }

    private void nest() {
        e.says(Edges.TERMS, "A NEST: BOWLS (bits, not none) of which, in the order of their OUTSIDES, each LIES IN the next one.");
        e.is("none", Edges.some().nest(0), 0);
        e.is("none of none", new BowlsWithin().nest(0), 0);
        e.is("one", Edges.some().nest(1), 1);
        e.is("one as shallow as can be", Due.heapOf("b0001,1;").nest(1), 1);
        e.is("two, just wide enough", Due.heapOf("b00012,9;b00010,9;").nest(3), 1);
        e.is("two, a hair too near", Due.heapOf("b00011,9;b00010,9;").nest(3), 0);
        e.is("two as wide", Due.heapOf("b00010,9;b00010,9;").nest(3), 0);
        e.is("by outside, not by width", Due.heapOf("b29030,9;b00023,9;").nest(3), 1);
        e.is("by outside, a hair too near", Due.heapOf("b29030,9;b00022,9;").nest(3), 0);
        e.is("by outside, behind a third", Due.heapOf("b0005,9;b29030,9;b00023,9;").nest(6), 1);
        e.is("by outside when turned", Due.heapOf("b19020,9;b00024,9;t0;b00031,9;").nest(5), 1);
        e.is("only the next one", Due.heapOf("b00010,10;b01012,9;b00014,9;").nest(7), 1);
        e.is("not the one after that", Due.heapOf("b00010,10;b01012,9;b00014,9;").nest(5), 0);
        e.is("nine just wide enough", Due.heapOf(Edges.NINE).nest(511), 1);
        BowlsWithin x = Due.heapOf(Edges.NINE + "x;b00082,9;");
        e.is("the narrowest narrower", x.nest(511), 1);
        x = Due.heapOf(Edges.NINE + "x;b00084,9;");
        e.is("the narrowest a hair too near", x.nest(511), 0);
        e.is("without that one", x.nest(255), 1);
    }

    private void height() {
        e.says(Edges.TERMS, "HEIGHT of a NEST: DEPTH of the last one in this order, and RISES of all others.");
        e.is("one as shallow as can be", Due.heapOf("b0001,1;").height(1), 1);
        e.is("one has no rise", Due.heapOf("b69010,1;").height(1), 1);
        e.is("deepest one", Due.heapOf("b69010,99;").height(1), 99);
        e.is("the last one's depth, though less", Due.heapOf("b00010,18;b69020,9;").height(3), 10);
        e.is("the last one has no rise", Due.heapOf("b69020,9;b00010,9;").height(3), 10);
        e.is("all others have", Due.heapOf("b69020,9;b00030,9;").height(3), 29);
        e.is("a lid's", Due.heapOf("b20020,9;b00030,9;").height(3), 11);
        e.is("nine", Due.heapOf(Edges.NINE).height(511), 17);
        e.is("eight", Due.heapOf(Edges.NINE).height(510), 16);
    }

    private void price() {
        e.says(Edges.TERMS, "PRICE of a BOWL: BOWL 4; OVAL a BOWL's and FIGURE; LID a BOWL's less 1; FOOT twice a BOWL's; "
            + "SECOND half of an OVAL's, cut; GLUED a FOOT's less FIGURE; DEEP a FOOT's and 5; "
            + "FLAT a LID's times (FIGURE and 1).");
        int[] figures = {0, 1, 2, 8, 9};
        int[][] prices = {
            {4, 4, 4, 4, 4}, {4, 5, 6, 12, 13}, {3, 3, 3, 3, 3}, {8, 8, 8, 8, 8}, {2, 2, 3, 6, 6}, {8, 7, 6, 0, -1},
            {13, 13, 13, 13, 13}, {3, 6, 9, 27, 30}
        };
        BowlsWithin x = new BowlsWithin();
        for (int kind = 0; kind <= 7; kind++) {
            for (int i = 0; i < figures.length; i++) {
                x.keep(0, 1, kind, figures[i]);
                e.is("kind " + kind + ", figure " + figures[i], x.price(0), prices[kind][i]);
            }
        }
    }

    private void shelves() {
        e.says(Edges.TERMS, "SHELVES 0 .. 7 each hold nothing (at first), a BOWL, a ROW.");
        BowlsWithin x = new BowlsWithin();
        for (int d = 0; d <= 7; d++) {
            e.is("price(" + d + ") at first", x.price(d), -11);
            e.is("judge(" + d + ") at first", x.judge(d), -11);
        }
        for (int d = 0; d <= 7; d++) {
            x.keep(d, 1, 1, d);
        }
        for (int d = 0; d <= 7; d++) {
            e.is("price(" + d + ")", x.price(d), 4 + d);
            e.is("judge(" + d + ") of a bowl", x.judge(d), -12);
        }
        for (int d = 0; d <= 7; d++) {
            x.row(d, 2, 1);
            x.put(d, 0, 100 + d);
        }
        for (int d = 0; d <= 7; d++) {
            e.is("element(" + d + ", 0)", Edges.element(x, d, 0), 100 + d);
            e.is("price(" + d + ") of a row", x.price(d), -12);
        }
        x.keep(7, 0, 0, 0);
        e.is("nothing once more", x.price(7), -11);
        e.is("the one ahead stays", Edges.element(x, 6, 0), 106);
        int[] wrong = {-1, 8, Edges.MIN, Edges.MAX};
        for (int d : wrong) {
            e.leaves("keep(" + d + ", 1, 0, 0)", Edges::some, y -> y.keep(d, 1, 0, 0), -1);
            e.leaves("row(" + d + ", 0, 0)", Edges::some, y -> y.row(d, 0, 0), -1);
        }
    }

    private void rows() {
        e.says(Edges.TERMS, "A ROW has a SORT (0 bytes, 1 shorts, 2 ints) and 0 .. 100 elements, 0 at first;");
        long[] left = {(byte) 0x12345678, (short) 0x12345678, 0x12345678};
        for (int sort = 0; sort <= 2; sort++) {
            BowlsWithin x = Edges.some();
            e.is("row(4, " + sort + ", 100)", x.row(4, sort, 100), 0);
            for (int i = 0; i < 100; i++) {
                e.is("element(4, " + i + ") at first", Edges.element(x, 4, i), 0);
            }
            e.is("element(4, 100)", Edges.element(x, 4, 100), Edges.NO_ELEMENT);
            x.put(4, 99, 0x12345678);
            e.is("the last of sort " + sort, Edges.element(x, 4, 99), left[sort]);
            e.is("row(4, " + sort + ", 0)", x.row(4, sort, 0), 0);
            e.is("element(4, 0) of none", Edges.element(x, 4, 0), Edges.NO_ELEMENT);
            e.is("row(4, " + sort + ", 100) anew", x.row(4, sort, 100), 0);
            e.is("the last anew", Edges.element(x, 4, 99), 0);
        }
        e.leaves("a sort below", Edges::some, x -> x.row(4, -1, 3), -1);
        e.leaves("a sort above", Edges::some, x -> x.row(4, 3, 3), -1);
        e.leaves("101 elements", Edges::some, x -> x.row(4, 0, 101), -1);
        e.leaves("-1 elements", Edges::some, x -> x.row(4, 0, -1), -14);
    }

    private void lowestBits() {
        e.says(Edges.TERMS, "what is put in keeps its lowest bits.");
        int[][] put = {
            {0, 127, 127}, {0, 128, -128}, {0, 255, -1}, {0, 256, 0}, {0, -128, -128}, {0, -129, 127},
            {0, Edges.MIN, 0}, {0, Edges.MAX, -1},
            {1, 32767, 32767}, {1, 32768, -32768}, {1, 65535, -1}, {1, 65536, 0}, {1, -32768, -32768},
            {1, -32769, 32767}, {1, 128, 128}, {1, Edges.MIN, 0}, {1, Edges.MAX, -1},
            {2, 65536, 65536}, {2, 32768, 32768}, {2, Edges.MIN, Edges.MIN}, {2, Edges.MAX, Edges.MAX}
        };
        BowlsWithin x = new BowlsWithin();
        for (int[] p : put) {
            x.row(0, p[0], 3);
            e.is("put(0, 1, " + p[1] + ") in sort " + p[0], x.put(0, 1, p[1]), 0);
            e.is(p[1] + " in sort " + p[0], Edges.element(x, 0, 1), p[2]);
            e.is("the one ahead", Edges.element(x, 0, 0), 0);
            e.is("the one behind", Edges.element(x, 0, 2), 0);
        }
    }

    private void refusals() {
        e.says(Edges.TERMS, "Their REFUSALS: -11 nothing is held where something is wanted; -12 it is of another kind;");
        BowlsWithin x = new BowlsWithin();
        e.is("a bowl is wanted, nothing is held", x.price(5), -11);
        e.is("a row is wanted, nothing is held", x.put(5, 0, 0), -11);
        x.row(5, 0, 1);
        e.is("a bowl is wanted, a row is held", x.price(5), -12);
        e.is("a row is wanted, a row is held", x.put(5, 0, 0), 0);
        x.keep(5, 1, 0, 1);
        e.is("a row is wanted, a bowl is held", x.put(5, 0, 0), -12);
        e.is("a bowl is wanted, a bowl is held", x.price(5), 4);
        e.says(Edges.TERMS, "-13 a place that isn't there (a number or a size that isn't as told, too); -14 a size below 0; "
            + "-15 a FAILURE that is none.");
        e.is("a failure that is one", x.toss(5), 1);
        x.keep(5, 1, 0, 0);
        e.is("a failure that is none", x.toss(5), -15);
        e.is("a size of 0", x.row(5, 0, 0), 0);
        e.is("a size below 0", x.row(5, 0, -1), -14);
        e.is("the first place of none", x.put(5, 0, 0), -13);
        x.row(5, 0, 1);
        e.is("the first place", x.put(5, 0, 0), 0);
        e.is("the place behind it", x.put(5, 1, 0), -13);
    }

    private void saidOnceMore() {
        e.says(Edges.TERMS, "Said once more: of a KIND (or SORT) \"n more\", \"n less\" without more words is: "
            + "than what the one it is under has; \"a and b\" of two numbers is their sum;");
        measure(OUTSIDE, 4, 3, 1, 20, 0, 24);
        measure(INSIDE, 5, 3, 1, 20, 4, 10);
        measure(RISE, 6, 3, 0, 20, 0, 8);
        BowlsWithin x = new BowlsWithin();
        x.keep(0, 1, 4, 3);
        e.is("half of what an oval has", x.price(0), 3);
        e.says(Edges.TERMS, "The ROW that is read, and what is taken from a SHELF, stay there; "
            + "when THE IMAGE is RESTORED, SHELVES stay as they are.");
        e.leaves("judge(2)", Edges::some, y -> y.judge(2), -4);
        e.leaves("out(2, 0)", Edges::some, y -> y.out(2, 0), 2);
        e.leaves("price(1)", Edges::some, y -> y.price(1), 4);
        e.leaves("toss(1)", Edges::some, y -> y.toss(1), 104);
        BowlsWithin y = Edges.some();
        e.is("heap(0)", y.heap(0), 2);
        e.is("heap(0) again", y.heap(0), 2);
        e.is("comes(1, 7, 7, 0)", y.comes(1, 7, 7, 0), 5);
        e.is("comes(1, 8, 8, 1)", y.comes(1, 8, 8, 1), 6);
        e.is("copy(3, 0, 3, 1, 1)", y.copy(3, 0, 3, 1, 1), 1);
        e.is("what is copied stays", Edges.element(y, 3, 0), 300);
        y.put(4, 2, 8);
        y.keep(7, 1, 6, 0);
        e.is("restore()", y.restore(), 2);
        e.is("the text stays", y.heap(0), 2);
        e.is("the bowl stays", y.price(1), 4);
        e.is("an element put later stays", Edges.element(y, 4, 2), 8);
        e.is("a bowl kept later stays", y.price(7), 13);
    }

    private void severalRefusals() {
        e.says(Edges.TERMS, "Answers of several refusals are the first one as they are told at the call: -1 no such thing, "
            + "a number out of range, or not as told; -2 no room; -3 it can't be as things stand; -4 none; -11 to -15.");
        e.leaves("comes: a width that is none, nothing held, no room", Edges::full, x -> x.comes(5, 0, 9, 0), -1);
        e.leaves("comes: nothing held, no room", Edges::full, x -> x.comes(5, 9, 9, 0), -11);
        e.leaves("comes: a row, no room", Edges::full, x -> x.comes(2, 9, 9, 0), -12);
        e.leaves("comes: no room", Edges::full, x -> x.comes(1, 9, 9, 0), -2);
        e.leaves("height: no such bowls, no nest", Edges::some, x -> x.height(8), -1);
        e.leaves("height: no nest", Edges::some, x -> x.height(0), -3);
        e.leaves("breaks: out of range, no bowls", BowlsWithin::new, x -> x.breaks(0, 1, 0), -1);
        e.leaves("breaks: no bowls", BowlsWithin::new, x -> x.breaks(1, 1, 0), -3);
        e.leaves("row: no such sort, a size below 0", Edges::some, x -> x.row(4, 3, -1), -1);
        e.leaves("row: a size below 0", Edges::some, x -> x.row(4, 2, -1), -14);
        e.says(Edges.TERMS, "A refused call changes nothing.");
        e.leaves("turn(3)", Edges::some, x -> x.turn(3), -1);
        e.leaves("keep with a figure of 10", Edges::some, x -> x.keep(1, 1, 0, 10), -1);
        e.leaves("restore() without an image", Edges::full, x -> x.restore(), -3);
    }
}
