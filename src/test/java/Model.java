import java.util.ArrayList;
import java.util.Arrays;
import java.util.List;
import java.util.regex.Matcher;
import java.util.regex.Pattern;

/**
 * The document told a second time, by looking at every case: slow, and made in another way than the program,
 * so that the two are unlikely to be wrong alike.
 */
final class Model {
    /** A bowl: kind, figure, turn, width, depth. */
    static final class B {
        final int k, f, t, w, d;

        B(int k, int f, int t, int w, int d) {
            this.k = k;
            this.f = f;
            this.t = t;
            this.w = w;
            this.d = d;
        }

        B wide(int width) {
            return new B(k, f, t, width, d);
        }
    }

    private static final Pattern HEAP = Pattern.compile(
        "(b[0-9]{3}(0|[1-9][0-9]?),(0|[1-9][0-9]?);|[wt][0-9];|x;)+");
    private static final Pattern STATEMENT = Pattern.compile(
        "b([0-9])([0-9])([0-9])([0-9]+),([0-9]+);|([wt])([0-9]);|x;");

    private List<B> heap = new ArrayList<>();
    private int warmth = 0;
    private List<B> imageHeap = null;
    private int imageWarmth = 0;
    private final int[][] kept = new int[8][];
    private final int[] sorts = new int[8];
    private final int[][] rows = new int[8][];

    // ---- terms

    static int outside(B b) {
        int turned = b.t == 1 ? b.f : 0;
        switch (b.k) {
            case 1: return b.w + turned;
            case 4: return b.w + turned + 1;
            case 2:
            case 7: return b.w - b.f < 1 ? 1 : b.w - b.f;
            case 5: return b.w + 2;
            default: return b.w;
        }
    }

    static int inside(B b, int v) {
        int turned = b.t == 1 ? b.f : 0;
        switch (b.k) {
            case 1:
            case 4: return b.w - 2 - v + turned;
            case 2:
            case 7: return 0;
            case 3:
            case 6: return b.w - 2 - v - 1;
            case 5: return b.w - 2 - v - 1 - b.f;
            default: return b.w - 2 - v;
        }
    }

    static int rise(B b) {
        switch (b.k) {
            case 2: return 2;
            case 3:
            case 5: return 1 + b.f;
            case 6: return 2 * (1 + b.f);
            default: return 1;
        }
    }

    static int priceOf(int k, int f) {
        switch (k) {
            case 0: return 4;
            case 1: return 4 + f;
            case 2: return 3;
            case 3: return 8;
            case 4: return (4 + f) / 2;
            case 5: return 8 - f;
            case 6: return 13;
            default: return 3 * (f + 1);
        }
    }

    static boolean liesIn(B a, B b, int v) {
        boolean oneTurn = !((a.k == 1 || a.k == 4) && (b.k == 1 || b.k == 4)) || a.t == b.t;
        return outside(a) <= inside(b, v) && a.d <= b.d + b.f && oneTurn;
    }

    private static List<B> byOutside(List<B> bowls) {
        List<B> sorted = new ArrayList<>(bowls);
        sorted.sort((a, b) -> outside(a) - outside(b));
        return sorted;
    }

    private static boolean isNest(List<B> bowls, int v) {
        List<B> sorted = byOutside(bowls);
        for (int i = 1; i < sorted.size(); i++) {
            if (!liesIn(sorted.get(i - 1), sorted.get(i), v)) {
                return false;
            }
        }
        return !sorted.isEmpty();
    }

    private static int heightOf(List<B> bowls) {
        List<B> sorted = byOutside(bowls);
        int high = sorted.get(sorted.size() - 1).d;
        for (int i = 0; i + 1 < sorted.size(); i++) {
            high += rise(sorted.get(i));
        }
        return high;
    }

    private List<B> picked(int bits) {
        List<B> some = new ArrayList<>();
        for (int i = 0; i < heap.size(); i++) {
            if ((bits >> i & 1) == 1) {
                some.add(heap.get(i));
            }
        }
        return some;
    }

    private boolean bowls(int bits) {
        return bits >= 0 && bits < 1 << heap.size();
    }

    private boolean known(int bowl) {
        return bowl >= 0 && bowl < heap.size();
    }

    private static boolean in(int v, int a, int b) {
        return a <= v && v <= b;
    }

    // ---- heaps

    int heap(int d) {
        int no = wantsBytes(d);
        if (no != 0) {
            return no;
        }
        StringBuilder b = new StringBuilder();
        for (int v : rows[d]) {
            b.append((char) (v & 255));
        }
        String text = b.toString();
        if (!HEAP.matcher(text).matches()) {
            return -1000 - firstBad(text);
        }
        List<B> oldHeap = new ArrayList<>(heap);
        int oldWarmth = warmth;
        Matcher m = STATEMENT.matcher(text);
        int told = 0;
        while (m.find()) {
            if (!done(m)) {
                heap = oldHeap;
                warmth = oldWarmth;
                return -2000 - m.start();
            }
            told++;
        }
        return told;
    }

    private static int firstBad(String text) {
        for (int size = 1; size <= text.length(); size++) {
            Matcher m = HEAP.matcher(text.substring(0, size));
            if (!m.matches() && !m.hitEnd()) {
                return size - 1;
            }
        }
        return text.length();
    }

    private boolean done(Matcher m) {
        if (m.group(1) != null) {
            int k = Integer.parseInt(m.group(1));
            int t = Integer.parseInt(m.group(3));
            int w = Integer.parseInt(m.group(4));
            int e = Integer.parseInt(m.group(5));
            if (k > 7 || t > 1 || w == 0 || e == 0 || heap.size() == 9) {
                return false;
            }
            heap.add(new B(k, Integer.parseInt(m.group(2)), t, w, e));
            return true;
        }
        if (m.group(6) == null) {
            if (heap.isEmpty()) {
                return false;
            }
            heap.remove(heap.size() - 1);
            return true;
        }
        int v = Integer.parseInt(m.group(7));
        if (m.group(6).equals("w")) {
            warmth = v;
            return true;
        }
        return turn(v) >= 0;
    }

    int bowl(int bowl, int what) {
        if (!known(bowl) || !in(what, 0, 7)) {
            return -1;
        }
        B b = heap.get(bowl);
        return new int[] {b.k, b.f, b.t, b.w, b.d, outside(b), inside(b, warmth), rise(b)}[what];
    }

    int comes(int d, int w, int e, int t) {
        if (!in(d, 0, 7) || !in(w, 1, 99) || !in(e, 1, 99) || !in(t, 0, 1)) {
            return -1;
        }
        int no = wantsBowl(d);
        if (no != 0) {
            return no;
        }
        if (heap.size() == 9) {
            return -2;
        }
        heap.add(new B(kept[d][0], kept[d][1], t, w, e));
        return heap.size() - 1;
    }

    int warm(int v) {
        if (!in(v, 0, 9)) {
            return -1;
        }
        int was = warmth;
        warmth = v;
        return was;
    }

    int turn(int bowl) {
        if (!known(bowl)) {
            return -1;
        }
        B b = heap.get(bowl);
        heap.set(bowl, new B(b.k, b.f, 1 - b.t, b.w, b.d));
        return 1 - b.t;
    }

    // ---- nests

    int lies(int one, int other) {
        if (!known(one) || !known(other) || one == other) {
            return -1;
        }
        return liesIn(heap.get(one), heap.get(other), warmth) ? 1 : 0;
    }

    int nest(int bits) {
        return !bowls(bits) ? -1 : isNest(picked(bits), warmth) ? 1 : 0;
    }

    int height(int bits) {
        return !bowls(bits) ? -1 : !isNest(picked(bits), warmth) ? -3 : heightOf(picked(bits));
    }

    int longest(int bits, int what) {
        if (!bowls(bits) || !in(what, 0, 1)) {
            return -1;
        }
        int best = 0;
        for (int set = 1; set < 1 << heap.size(); set++) {
            if ((set & bits) == set && isNest(picked(set), warmth)) {
                int more = Integer.bitCount(set) - Integer.bitCount(best);
                if (more > 0 || more == 0 && heightOf(picked(set)) < heightOf(picked(best))) {
                    best = set;
                }
            }
        }
        return what == 0 ? best : Integer.bitCount(best);
    }

    /** Over all ways to part the bowls into sets. */
    private interface Ways {
        int of(List<Integer> sets);
    }

    private int leastOf(Ways ways) {
        boolean[] nests = new boolean[1 << heap.size()];
        for (int set = 1; set < nests.length; set++) {
            nests[set] = isNest(picked(set), warmth);
        }
        return parted(0, new ArrayList<>(), nests, ways);
    }

    private int parted(int next, List<Integer> sets, boolean[] nests, Ways ways) {
        if (next == heap.size()) {
            for (int set : sets) {
                if (!nests[set]) {
                    return Integer.MAX_VALUE;
                }
            }
            return ways.of(sets);
        }
        int best = Integer.MAX_VALUE;
        for (int i = 0; i < sets.size(); i++) {
            int old = sets.get(i);
            sets.set(i, old | 1 << next);
            best = Math.min(best, parted(next + 1, sets, nests, ways));
            sets.set(i, old);
        }
        sets.add(1 << next);
        best = Math.min(best, parted(next + 1, sets, nests, ways));
        sets.remove(sets.size() - 1);
        return best;
    }

    int fewest() {
        return leastOf(sets -> sets.size());
    }

    int apart(int what) {
        if (!in(what, 0, 1)) {
            return -1;
        }
        int best = 0;
        for (int set = 1; set < 1 << heap.size(); set++) {
            boolean free = true;
            for (int i = 0; i < heap.size(); i++) {
                for (int j = 0; j < heap.size(); j++) {
                    free &= (set >> i & set >> j & 1) == 0 || i == j || lies(i, j) == 0;
                }
            }
            if (free && Integer.bitCount(set) > Integer.bitCount(best)) {
                best = set;
            }
        }
        return what == 0 ? Integer.bitCount(best) : best;
    }

    int carry() {
        return leastOf(sets -> {
            int sum = 0;
            for (int set : sets) {
                sum += heightOf(picked(set));
            }
            return sum;
        });
    }

    int load(int h) {
        if (!in(h, 1, 99)) {
            return -1;
        }
        int least = leastOf(sets -> {
            for (int set : sets) {
                if (heightOf(picked(set)) > h) {
                    return Integer.MAX_VALUE;
                }
            }
            return sets.size();
        });
        return least == Integer.MAX_VALUE ? -4 : least;
    }

    // ---- sets made whole

    int whole(int k) {
        if (!in(k, 1, 9)) {
            return -1;
        }
        return wholeOf(k, (1 << heap.size()) - 1);
    }

    private int wholeOf(int k, int left) {
        int best = 0;
        for (int set = left; set > 0; set = set - 1 & left) {
            if (Integer.bitCount(set) == k && isNest(picked(set), warmth)) {
                best = Math.max(best, 1 + wholeOf(k, left & ~set & ~((set & -set) - 1)));
            }
        }
        return best;
    }

    /** Tries widths and depths up to limits that the caller knows to be enough. */
    int throwsNew(int widest, int deepest) {
        if (heap.isEmpty()) {
            return -4;
        }
        List<B> all = new ArrayList<>(heap);
        if (isNest(all, warmth)) {
            return 0;
        }
        if (wholeWithMore(all, 1, widest, deepest)) {
            return 1;
        }
        return wholeWithMore(all, 2, widest, deepest) ? 2 : -4;
    }

    private boolean wholeWithMore(List<B> bowls, int more, int widest, int deepest) {
        if (more == 0) {
            return isNest(bowls, warmth);
        }
        for (int w = 1; w <= widest; w++) {
            for (int d = 1; d <= deepest; d++) {
                bowls.add(new B(0, 0, 0, w, d));
                boolean is = wholeWithMore(bowls, more - 1, widest, deepest);
                bowls.remove(bowls.size() - 1);
                if (is) {
                    return true;
                }
            }
        }
        return false;
    }

    int helps(int depth, int what) {
        if (!in(depth, 1, 99) || !in(what, 0, 1)) {
            return -1;
        }
        int best = 0;
        int most = 0;
        for (int w = 1; w <= 99; w++) {
            List<B> all = new ArrayList<>(heap);
            all.add(new B(0, 0, 0, w, depth));
            int many = longestRow(byOutside(all));
            if (many > most) {
                most = many;
                best = w;
            }
        }
        return what == 0 ? best : most;
    }

    private int longestRow(List<B> sorted) {
        int most = 0;
        int[] rows = new int[sorted.size()];
        for (int i = 0; i < rows.length; i++) {
            rows[i] = 1;
            for (int j = 0; j < i; j++) {
                if (liesIn(sorted.get(j), sorted.get(i), warmth)) {
                    rows[i] = Math.max(rows[i], rows[j] + 1);
                }
            }
            most = Math.max(most, rows[i]);
        }
        return most;
    }

    // ---- taking out, told nests

    int out(int d, int v) {
        if (!in(d, 0, 7) || !in(v, 0, 9)) {
            return -1;
        }
        int no = wantsBytes(d);
        if (no != 0) {
            return no;
        }
        if (rows[d].length == 0 || judge(d) != -4) {
            return -13;
        }
        int taken = 0;
        for (int i = rows[d].length - 1; i > 0; i--) {
            if (!liesIn(heap.get(rows[d][i]), heap.get(rows[d][i - 1]), v)) {
                return taken;
            }
            taken++;
        }
        return taken + 1;
    }

    int judge(int d) {
        int no = wantsRow(d);
        if (no != 0) {
            return no;
        }
        int[] r = rows[d];
        for (int i = 0; i < r.length; i++) {
            int bowl = r[i];
            boolean again = Arrays.stream(r, 0, i).anyMatch(other -> other == bowl);
            if (!known(bowl) || again || i > 0 && lies(bowl, r[i - 1]) != 1) {
                return i;
            }
        }
        return -4;
    }

    // ---- spans, broken ones

    int spans(int one, int other, int e) {
        if (!known(one) || !known(other) || one == other || !in(e, 0, 9)) {
            return -1;
        }
        return spansOf(heap.get(one), e, heap.get(other), e);
    }

    private int spansOf(B a, int spanA, B b, int spanB) {
        int yes = 0;
        int no = 0;
        for (int w = Math.max(1, a.w - spanA); w <= a.w + spanA; w++) {
            for (int u = Math.max(1, b.w - spanB); u <= b.w + spanB; u++) {
                if (liesIn(a.wide(w), b.wide(u), warmth)) {
                    yes++;
                } else {
                    no++;
                }
            }
        }
        return no == 0 ? 2 : yes == 0 ? 0 : 1;
    }

    int next(int e, int what) {
        if (!in(e, 0, 9) || !in(what, 0, 1)) {
            return -1;
        }
        int best = -4;
        int least = -4;
        for (int known = 0; known < heap.size(); known++) {
            int pairs = 0;
            for (int i = 0; i < heap.size(); i++) {
                for (int j = 0; j < heap.size(); j++) {
                    if (i != j
                        && spansOf(heap.get(i), i == known ? 0 : e, heap.get(j), j == known ? 0 : e) == 1) {
                        pairs++;
                    }
                }
            }
            if (best < 0 || pairs < least) {
                best = known;
                least = pairs;
            }
        }
        return what == 0 ? best : least;
    }

    int from(int first, int other, int w, int d) {
        if (!bowls(first) || !bowls(other) || (first & other) != 0 || !in(w, 1, 99) || !in(d, 1, 99)) {
            return -1;
        }
        return (isWith(first, w, d) ? 1 : 0) + (isWith(other, w, d) ? 2 : 0);
    }

    private boolean isWith(int bits, int w, int d) {
        List<B> all = picked(bits);
        all.add(new B(0, 0, 0, w, d));
        return isNest(all, warmth);
    }

    int breaks(int n, int z, int what) {
        if (!in(n, 1, 40) || !in(what, 0, 1)) {
            return -1;
        }
        if (heap.isEmpty()) {
            return -3;
        }
        boolean[] broken = new boolean[heap.size()];
        long seed = z;
        for (int i = 0; i < n; i++) {
            seed = (int) (seed * 1103515245L + 12345L);
            broken[(int) ((seed & 0x7fffffffL) >>> 16) % heap.size()] = true;
        }
        int others = 0;
        for (int i = 0; i < broken.length; i++) {
            others |= broken[i] ? 0 : 1 << i;
        }
        return what == 0 ? heap.size() - Integer.bitCount(others) : longest(others, 1);
    }

    // ---- the image, what is told

    int image() {
        imageHeap = new ArrayList<>(heap);
        imageWarmth = warmth;
        return heap.size();
    }

    int restore() {
        if (imageHeap == null) {
            return -3;
        }
        heap = new ArrayList<>(imageHeap);
        warmth = imageWarmth;
        return heap.size();
    }

    int count(int what) {
        int pairs = 0;
        int depths = 0;
        for (int i = 0; i < heap.size(); i++) {
            depths += heap.get(i).d;
            for (int j = i + 1; j < heap.size(); j++) {
                pairs += lies(i, j) == 1 || lies(j, i) == 1 ? 1 : 0;
            }
        }
        return in(what, 0, 3) ? new int[] {heap.size(), warmth, pairs, depths}[what] : -1;
    }

    // ---- shelves

    private int wantsRow(int d) {
        return !in(d, 0, 7) ? -1 : rows[d] != null ? 0 : kept[d] != null ? -12 : -11;
    }

    private int wantsBytes(int d) {
        int no = wantsRow(d);
        return no == 0 && sorts[d] != 0 ? -12 : no;
    }

    private int wantsBowl(int d) {
        return !in(d, 0, 7) ? -1 : kept[d] != null ? 0 : rows[d] != null ? -12 : -11;
    }

    int keep(int d, int what, int k, int figure) {
        if (!in(d, 0, 7) || !in(what, 0, 1) || what == 1 && (!in(k, 0, 7) || !in(figure, 0, 9))) {
            return -1;
        }
        rows[d] = null;
        kept[d] = what == 0 ? null : new int[] {k, figure};
        return 0;
    }

    int row(int d, int sort, int n) {
        if (!in(d, 0, 7) || !in(sort, 0, 2) || n > 100) {
            return -1;
        }
        if (n < 0) {
            return -14;
        }
        kept[d] = null;
        rows[d] = new int[n];
        sorts[d] = sort;
        return 0;
    }

    int put(int d, int i, int v) {
        int no = wantsRow(d);
        if (no != 0) {
            return no;
        }
        if (!in(i, 0, rows[d].length - 1)) {
            return -13;
        }
        int bits = 8 << sorts[d];
        rows[d][i] = v << 32 - bits >> 32 - bits;
        return 0;
    }

    /** The element; for an IllegalArgumentException 1 over all ints, for an IllegalStateException 2 over. */
    long element(int d, int i) {
        if (!in(d, 0, 7)) {
            return Integer.MAX_VALUE + 1L;
        }
        if (rows[d] == null || !in(i, 0, rows[d].length - 1)) {
            return Integer.MAX_VALUE + 2L;
        }
        return rows[d][i];
    }

    int copy(int d, int i, int e, int j, int n) {
        if (!in(d, 0, 7) || !in(e, 0, 7)) {
            return -1;
        }
        if (wantsRow(d) == -11 || wantsRow(e) == -11) {
            return -11;
        }
        if (rows[d] == null || rows[e] == null || sorts[d] != sorts[e]) {
            return -12;
        }
        long endFrom = (long) i + n;
        long endTo = (long) j + n;
        if (n < 0 || i < 0 || j < 0 || endFrom > rows[d].length || endTo > rows[e].length) {
            return -13;
        }
        int[] taken = Arrays.copyOfRange(rows[d], i, i + n);
        for (int at = 0; at < n; at++) {
            rows[e][j + at] = taken[at];
        }
        return n;
    }

    int price(int d) {
        int no = wantsBowl(d);
        return no != 0 ? no : priceOf(kept[d][0], kept[d][1]);
    }

    int toss(int d) {
        int no = wantsBowl(d);
        if (no != 0) {
            return no;
        }
        int k = kept[d][0];
        int f = kept[d][1];
        return f == 0 || k == 4 ? -15 : k == 5 ? 100 + f : k == 7 ? 200 + priceOf(k, f) : f;
    }
}
