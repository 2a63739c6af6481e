/** The document's first line: each thing that it names is done, on one heap that is worked out by hand. */
final class EdgesOfFirstLine {
    /**
     * OUTSIDES 10, 14, 20, 30; INSIDES 8, 12, 18, 27; the second and the third are ovals, turned unlike each other,
     * so that these two alone do not lie in one another.
     */
    private static final String FOUR = "b00010,9;b10114,9;b10020,9;b32030,8;";

    private final Edges e;
    private final BowlsWithin x = Due.heapOf(FOUR);

    EdgesOfFirstLine(Edges e) {
        this.e = e;
    }

    void ask() {
        bowls();
        nests();
        sets();
        takingOut();
        spans();
        textsAndImage();
    }

    private void bowls() {
        says("Bowls within bowls: a heap of bowls of kinds with widths, depths, hairs of rim,");
        int[][] want = {{0, 0, 0, 10, 9, 10, 8, 1}, {1, 0, 1, 14, 9, 14, 12, 1}, {1, 0, 0, 20, 9, 20, 18, 1},
            {3, 2, 0, 30, 8, 30, 27, 3}};
        for (int bowl = 0; bowl < want.length; bowl++) {
            for (int what = 0; what < want[bowl].length; what++) {
                e.is("bowl(" + bowl + ", " + what + ")", x.bowl(bowl, what), want[bowl][what]);
            }
        }
        says("that lie in one another if they go by their turn and warmth;");
        e.is("lies(0, 1)", x.lies(0, 1), 1);
        e.is("lies(1, 2), turned unlike each other", x.lies(1, 2), 0);
        e.is("turn(1)", x.turn(1), 0);
        e.is("lies(1, 2), turned alike", x.lies(1, 2), 1);
        e.is("turn(1) back", x.turn(1), 1);
        e.is("warm(3)", x.warm(3), 0);
        e.is("lies(0, 1) when warm", x.lies(0, 1), 0);
        e.is("warm(0)", x.warm(0), 3);
    }

    private void nests() {
        says("the longest row,");
        e.is("longest(15, 0)", x.longest(15, 0), 11);
        e.is("longest(15, 1)", x.longest(15, 1), 3);
        says("the fewest nests for all,");
        e.is("fewest()", x.fewest(), 2);
        says("bowls of which none lies in another,");
        e.is("apart(0)", x.apart(0), 2);
        e.is("apart(1)", x.apart(1), 6);
        says("the least height in which all are carried,");
        e.is("carry()", x.carry(), 19);
        says("stacks on a mule,");
        e.is("load(10)", x.load(10), 2);
        e.is("load(9)", x.load(9), 3);
        e.is("load(8)", x.load(8), -4);
    }

    private void sets() {
        says("odd ones that make sets whole,");
        e.is("whole(2)", x.whole(2), 2);
        e.is("whole(3)", x.whole(3), 1);
        says("the fewest new ones to be thrown,");
        e.is("throwsNew()", x.throwsNew(), 1);
        says("which new one helps most,");
        e.is("helps(9, 0)", x.helps(9, 0), 16);
        e.is("helps(9, 1)", x.helps(9, 1), 5);
    }

    private void takingOut() {
        says("orders of taking out when rims are warm,");
        Due.list(x, 1, 0, 3, 1, 0);
        e.is("out(1, 2)", x.out(1, 2), 3);
        e.is("out(1, 3)", x.out(1, 3), 0);
        says("told nests looked at,");
        e.is("judge(1)", x.judge(1), -4);
        x.put(1, 2, 2);
        e.is("judge(1), the third in the second", x.judge(1), 2);
    }

    private void spans() {
        says("widths that are known by spans and surely nest or not,");
        e.is("spans(0, 1, 1)", x.spans(0, 1, 1), 2);
        e.is("spans(0, 1, 2)", x.spans(0, 1, 2), 1);
        e.is("spans(3, 0, 9)", x.spans(3, 0, 9), 0);
        says("what to measure next,");
        e.is("next(3, 0)", x.next(3, 0), 0);
        e.is("next(3, 1)", x.next(3, 1), 1);
        says("from which of two sets a broken one was,");
        e.is("from(1, 4, 16, 9)", x.from(1, 4, 16, 9), 3);
        e.is("from(1, 4, 19, 9)", x.from(1, 4, 19, 9), 1);
        says("heaps by seeds,");
        e.is("breaks(3, 97, 0)", x.breaks(3, 97, 0), 2);
        e.is("breaks(3, 97, 1)", x.breaks(3, 97, 1), 1);
        e.is("breaks(1, 97, 1)", x.breaks(1, 97, 1), 2);
    }

    private void textsAndImage() {
        says("heaps as texts,");
        e.is("heap(0) of '" + FOUR + "'", x.heap(0), 4);
        e.is("how many", x.count(0), 8);
        says("an image.");
        e.is("image()", x.image(), 8);
        e.is("heap of 'x;w4;'", Due.told(x, "x;w4;"), 2);
        e.is("restore()", x.restore(), 8);
        e.is("warmth", x.count(1), 0);
    }

    private void says(String sentence) {
        e.says(Edges.WHAT_IT_IS, sentence);
    }
}
