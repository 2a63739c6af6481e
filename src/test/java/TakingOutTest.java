/** Promises 18 and 19: out, judge. */
public final class TakingOutTest {
    private static final Due due = new Due("taking out");

    public static void main(String[] args) {
        out();
        outWhenWarmNow();
        outRefused();
        judge();
        due.end();
    }

    private static BowlsWithin three() {
        return Due.heapOf("b00030,9;b00020,9;b00017,9;");
    }

    private static void out() {
        BowlsWithin x = three();
        Due.list(x, 1, 0, 0, 1, 2);
        int[] taken = {3, 3, 0, 0, 0, 0, 0, 0, 0, 0};
        for (int v = 0; v < 10; v++) {
            due.is("out at " + v, x.out(1, v), taken[v]);
        }
        Due.list(x, 1, 0, 0, 1);
        due.is("two at 8", x.out(1, 8), 2);
        due.is("two at 9", x.out(1, 9), 0);
        BowlsWithin y = Due.heapOf("b00030,9;b00026,9;b00010,9;");
        Due.list(y, 1, 0, 0, 1, 2);
        due.is("the middle is stuck", y.out(1, 3), 1);
        due.is("nothing is gone", y.count(0), 3);
        due.is("warmth stays", y.count(1), 0);
        Due.list(y, 1, 0, 2);
        due.is("one alone", y.out(1, 9), 1);
    }

    private static void outWhenWarmNow() {
        BowlsWithin x = three();
        Due.list(x, 1, 0, 0, 1, 2);
        x.warm(1);
        due.is("out at 0, now 1", x.out(1, 0), 3);
        x.warm(2);
        due.is("they don't lie so now", x.out(1, 0), -13);
    }

    private static void outRefused() {
        BowlsWithin x = three();
        due.is("no shelf", x.out(8, 0), -1);
        due.is("no shelf below", x.out(-1, 0), -1);
        due.is("no such warmth", x.out(1, 10), -1);
        due.is("warmth below", x.out(1, -1), -1);
        due.is("nothing held", x.out(1, 0), -11);
        x.keep(1, 1, 0, 0);
        due.is("a bowl", x.out(1, 0), -12);
        Due.list(x, 1, 1, 0);
        due.is("shorts", x.out(1, 0), -12);
        Due.list(x, 1, 2, 0);
        due.is("ints", x.out(1, 0), -12);
        int[][] wrong = {{}, {3}, {-1}, {0, 1, 0}, {0, 0}, {1, 0}, {0, 2, 1}, {0, 1, 3}, {0, 1, -128}};
        for (int[] w : wrong) {
            Due.list(x, 1, 0, w);
            due.is("a row of " + w.length, x.out(1, 0), -13);
        }
    }

    private static void judge() {
        BowlsWithin x = three();
        int[][] told = {{0, 1, 2}, {}, {2}, {3}, {0, -1}, {0, 0}, {0, 1, 0}, {1, 0, 9}, {0, 2, 1}, {0, 1, 2, 2}, {0, 2}};
        int[] want = {-4, -4, -4, 0, 1, 1, 2, 1, 2, 3, -4};
        for (int sort = 0; sort < 3; sort++) {
            for (int i = 0; i < told.length; i++) {
                Due.list(x, 1, sort, told[i]);
                due.is("judge of " + i + ", sort " + sort, x.judge(1), want[i]);
            }
        }
        Due.list(x, 1, 2, 0, 256);
        due.is("an int is whole", x.judge(1), 1);
        Due.list(x, 1, 0, 256, 257);
        due.is("a byte is not", x.judge(1), -4);
        x.warm(9);
        due.is("by warmth now", x.judge(1), 1);
        due.is("no shelf", x.judge(8), -1);
        due.is("no shelf below", x.judge(-1), -1);
        due.is("nothing held", x.judge(2), -11);
        x.keep(2, 1, 0, 0);
        due.is("a bowl", x.judge(2), -12);
    }
}
