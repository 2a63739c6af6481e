/** Asks an object for all that later calls could show of it; it is of no use afterwards. */
final class Shown {
    /** So that an object's own calls and these stay within the 512 that are promised. */
    private static final int MOST_CALLS = 350;
    private static final int PROBE = 7;

    private final BowlsWithin x;
    private final StringBuilder told = new StringBuilder();
    private int calls;

    private Shown(BowlsWithin x) {
        this.x = x;
    }

    static String by(BowlsWithin x) {
        Shown shown = new Shown(x);
        shown.heap();
        for (int d = 0; d < 8; d++) {
            shown.shelf(d);
        }
        for (int d = 0; d < 8; d++) {
            shown.sort(d);
        }
        shown.emptySorts();
        shown.add("restore", x.restore());
        shown.heap();
        if (shown.calls > MOST_CALLS) {
            throw new IllegalStateException("too many calls for one object: " + shown.calls);
        }
        return shown.told.toString();
    }

    private void add(String name, long answer) {
        calls++;
        told.append(' ').append(name).append('=').append(answer);
    }

    private void heap() {
        for (int what = 0; what < 4; what++) {
            add("count" + what, x.count(what));
        }
        int bowls = x.count(0);
        for (int bowl = 0; bowl <= bowls; bowl++) {
            for (int what = 0; what < 5; what++) {
                add("bowl" + bowl + "," + what, x.bowl(bowl, what));
            }
        }
        nests((1 << bowls) - 1);
    }

    /** What is reckoned of the heap, lest something of an earlier reckoning be left in it. */
    private void nests(int all) {
        add("longest", x.longest(all, 0));
        add("fewest", x.fewest());
        add("apart", x.apart(1));
        add("carry", x.carry());
        add("load", x.load(10));
        add("whole", x.whole(2));
        add("throwsNew", x.throwsNew());
        add("helps", x.helps(9, 0));
        add("many", x.helps(9, 1));
        add("next", x.next(3, 1));
        add("from", x.from(all, 0, 40, 9));
        add("breaks", x.breaks(2, 7, 1));
    }

    private void shelf(int d) {
        add("price" + d, x.price(d));
        add("toss" + d, x.toss(d));
        int size = 0;
        while (size <= 100 && element(d, size)) {
            size++;
        }
    }

    private boolean element(int d, int i) {
        try {
            add("element" + d + "," + i, x.element(d, i));
            return true;
        } catch (IllegalStateException e) {
            add("end" + d, i);
            return false;
        }
    }

    /** The sort of a row shows in what is left of a great number. */
    private void sort(int d) {
        int put = x.put(d, 0, 0x12345678);
        add("put" + d, put);
        if (put == 0) {
            element(d, 0);
        }
    }

    /** The sort of an empty row shows only in what it can be copied to; the last shelf is seen already. */
    private void emptySorts() {
        for (int sort = 0; sort < 3; sort++) {
            x.row(PROBE, sort, 0);
            calls++;
            for (int d = 0; d < PROBE; d++) {
                add("copy" + d + "," + sort, x.copy(d, 0, PROBE, 0, 0));
            }
        }
    }
}
