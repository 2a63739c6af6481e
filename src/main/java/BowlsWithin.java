/** Bowls within bowls: a heap of bowls, the nests that they make, and shelves for what comes and is told. */
public final class BowlsWithin {
    private static final int MOST_BOWLS = 9;
    private static final int MOST_HAIRS = 99;
    private static final int MOST_WARMTH = 9;
    private static final int MOST_FIGURE = 9;
    private static final int MOST_SPAN = 9;
    private static final int MOST_DROPS = 40;
    private static final int MOST_THROWN = 2;
    private static final int MOST_ELEMENTS = 100;
    private static final int SETS = 1 << MOST_BOWLS;
    private static final int KINDS = 8;
    private static final int SORTS = 3;
    private static final int SHELVES = 8;
    private static final int WITHOUT_SIGN = 0x7fffffff;

    private static final int WRONG = -1;
    private static final int NO_ROOM = -2;
    private static final int NOT_NOW = -3;
    private static final int NONE = -4;
    private static final int NOTHING_HELD = -11;
    private static final int OTHER_KIND = -12;
    private static final int NO_PLACE = -13;
    private static final int SIZE_BELOW_ZERO = -14;
    private static final int NO_FAILURE = -15;

    private final Bowl[] kinds;
    private final Heap now;
    private final Heap trial;
    private final Heap imaged;
    private final Nests nests;
    private final Shelf[] shelves;
    private boolean hasImage;

    public BowlsWithin() {
        Bowl[] each = {
            new Bowl(), new Oval(), new Lid(), new Foot(), new Second(), new Glued(), new Deep(), new Flat()
        };
        kinds = each;
        now = new Heap(each);
        trial = new Heap(each);
        imaged = new Heap(each);
        nests = new Nests();
        shelves = new Shelf[SHELVES];
        for (int d = 0; d < SHELVES; d++) {
            shelves[d] = new Shelf();
        }
        hasImage = false;
    }

    // ---- heaps

    public int heap(int d) {
        int refusal = bytesRefusal(d);
        if (refusal != 0) {
            return refusal;
        }
        int place = shelves[d].faultOfForm();
        if (place >= 0) {
            return -1000 - place;
        }
        return tellAll(shelves[d]);
    }

    public int bowl(int bowl, int what) {
        if (!now.has(bowl)) {
            return WRONG;
        }
        switch (what) {
            case 0: return now.kind[bowl];
            case 1: return now.figure[bowl];
            case 2: return now.turned[bowl];
            case 3: return now.width[bowl];
            case 4: return now.depth[bowl];
            case 5: return now.outsideAt(bowl, now.width[bowl]);
            case 6: return now.insideAt(bowl, now.width[bowl], now.warmth);
            case 7: return now.riseOf(bowl);
            default: return WRONG;
        }
    }

    public int comes(int d, int w, int e, int t) {
        if (!isShelf(d) || !areHairs(w) || !areHairs(e) || !isWithin(t, 0, 1)) {
            return WRONG;
        }
        int refusal = bowlRefusal(d);
        if (refusal != 0) {
            return refusal;
        }
        if (!now.add(shelves[d].kind, shelves[d].figure, t, w, e)) {
            return NO_ROOM;
        }
        return now.count - 1;
    }

    public int warm(int v) {
        if (!isWarmth(v)) {
            return WRONG;
        }
        int before = now.warmth;
        now.warmth = v;
        return before;
    }

    public int turn(int bowl) {
        if (!now.flip(bowl)) {
            return WRONG;
        }
        return now.turned[bowl];
    }

    // ---- nests

    public int lies(int one, int other) {
        if (!arePair(one, other)) {
            return WRONG;
        }
        return now.isIn(one, other, now.warmth) ? 1 : 0;
    }

    public int nest(int bowls) {
        if (!areBowls(bowls)) {
            return WRONG;
        }
        return now.heightOf(bowls) > 0 ? 1 : 0;
    }

    public int height(int bowls) {
        if (!areBowls(bowls)) {
            return WRONG;
        }
        int high = now.heightOf(bowls);
        return high > 0 ? high : NOT_NOW;
    }

    public int longest(int bowls, int what) {
        if (!areBowls(bowls) || !isWithin(what, 0, 1)) {
            return WRONG;
        }
        nests.findAll(now);
        int set = nests.longestOf(bowls);
        return what == 0 ? set : Integer.bitCount(set);
    }

    public int fewest() {
        nests.findAll(now);
        nests.costOneEach(Nests.IMPOSSIBLE);
        return nests.leastSum();
    }

    public int apart(int what) {
        if (!isWithin(what, 0, 1)) {
            return WRONG;
        }
        nests.findAll(now);
        int set = nests.mostApart();
        return what == 0 ? Integer.bitCount(set) : set;
    }

    public int carry() {
        nests.findAll(now);
        nests.costHeights();
        return nests.leastSum();
    }

    public int load(int h) {
        if (!areHairs(h)) {
            return WRONG;
        }
        nests.findAll(now);
        nests.costOneEach(h);
        int least = nests.leastSum();
        return least < Nests.IMPOSSIBLE ? least : NONE;
    }

    // ---- sets made whole

    public int whole(int k) {
        if (!isWithin(k, 1, MOST_BOWLS)) {
            return WRONG;
        }
        nests.findAll(now);
        nests.costLessForSetsOf(k);
        return -nests.leastSum();
    }

    public int throwsNew() {
        if (now.count == 0) {
            return NONE;
        }
        now.arrange();
        trial.become(now);
        int thrown = trial.think(1, 1);
        int gaps = 0;
        for (int i = 1; i < now.count; i++) {
            int inner = now.order[i - 1];
            int outer = now.order[i];
            if (!now.isIn(inner, outer, now.warmth)) {
                gaps++;
                if (gaps > MOST_THROWN || !isBridged(inner, outer, thrown)) {
                    return NONE;
                }
            }
        }
        return gaps;
    }

    public int helps(int depth, int what) {
        if (!areHairs(depth) || !isWithin(what, 0, 1)) {
            return WRONG;
        }
        nests.findAll(now);
        nests.findChains(now);
        trial.become(now);
        int helper = trial.think(1, depth);
        int bestWidth = 1;
        int most = 0;
        for (int w = 1; w <= MOST_HAIRS; w++) {
            trial.width[helper] = w;
            int many = nests.longestWith(trial, helper);
            if (many > most) {
                most = many;
                bestWidth = w;
            }
        }
        return what == 0 ? bestWidth : most;
    }

    // ---- taking out, told nests

    public int out(int d, int v) {
        if (!isShelf(d) || !isWarmth(v)) {
            return WRONG;
        }
        int refusal = bytesRefusal(d);
        if (refusal != 0) {
            return refusal;
        }
        Shelf told = shelves[d];
        if (told.size == 0 || firstMisplaced(told) >= 0) {
            return NO_PLACE;
        }
        int taken = 0;
        for (int i = told.size - 1; i >= 0; i--) {
            if (i > 0 && !now.isIn(told.at(i), told.at(i - 1), v)) {
                return taken;
            }
            taken++;
        }
        return taken;
    }

    public int judge(int d) {
        int refusal = rowRefusal(d);
        if (refusal != 0) {
            return refusal;
        }
        int place = firstMisplaced(shelves[d]);
        return place >= 0 ? place : NONE;
    }

    // ---- spans, broken ones

    public int spans(int one, int other, int e) {
        if (!arePair(one, other) || !isWithin(e, 0, MOST_SPAN)) {
            return WRONG;
        }
        return now.spanned(one, e, other, e);
    }

    public int next(int e, int what) {
        if (!isWithin(e, 0, MOST_SPAN) || !isWithin(what, 0, 1)) {
            return WRONG;
        }
        int best = NONE;
        int fewestPairs = NONE;
        for (int known = 0; known < now.count; known++) {
            int pairs = pairsPerhaps(known, e);
            if (best == NONE || pairs < fewestPairs) {
                best = known;
                fewestPairs = pairs;
            }
        }
        return what == 0 ? best : fewestPairs;
    }

    public int from(int first, int other, int w, int d) {
        if (!areBowls(first) || !areBowls(other) || (first & other) != 0 || !areHairs(w) || !areHairs(d)) {
            return WRONG;
        }
        trial.become(now);
        int found = 1 << trial.think(w, d);
        int answer = 0;
        if (trial.heightOf(first | found) > 0) {
            answer += 1;
        }
        if (trial.heightOf(other | found) > 0) {
            answer += 2;
        }
        return answer;
    }

    public int breaks(int n, int z, int what) {
        if (!isWithin(n, 1, MOST_DROPS) || !isWithin(what, 0, 1)) {
            return WRONG;
        }
        if (now.count == 0) {
            return NOT_NOW;
        }
        int broken = brokenBy(n, z);
        if (what == 0) {
            return Integer.bitCount(broken);
        }
        nests.findAll(now);
        return Integer.bitCount(nests.longestOf(now.all() & ~broken));
    }

    // ---- the image, what is told

    public int image() {
        imaged.become(now);
        hasImage = true;
        return now.count;
    }

    public int restore() {
        if (!hasImage) {
            return NOT_NOW;
        }
        now.become(imaged);
        return now.count;
    }

    public int count(int what) {
        switch (what) {
            case 0: return now.count;
            case 1: return now.warmth;
            case 2: return now.pairsIn();
            case 3: return now.allDepths();
            default: return WRONG;
        }
    }

    // ---- shelves

    public int keep(int d, int what, int k, int figure) {
        if (!isShelf(d) || !isWithin(what, 0, 1)) {
            return WRONG;
        }
        if (what == 0) {
            shelves[d].clear();
            return 0;
        }
        if (!isWithin(k, 0, KINDS - 1) || !isWithin(figure, 0, MOST_FIGURE)) {
            return WRONG;
        }
        shelves[d].holdBowl(k, figure);
        return 0;
    }

    public int row(int d, int sort, int n) {
        if (!isShelf(d) || !isWithin(sort, 0, SORTS - 1) || n > MOST_ELEMENTS) {
            return WRONG;
        }
        if (n < 0) {
            return SIZE_BELOW_ZERO;
        }
        shelves[d].holdRow(sort, n);
        return 0;
    }

    public int put(int d, int i, int v) {
        int refusal = rowRefusal(d);
        if (refusal != 0) {
            return refusal;
        }
        if (!shelves[d].hasPlace(i)) {
            return NO_PLACE;
        }
        shelves[d].set(i, v);
        return 0;
    }

    public long element(int d, int i) throws IllegalArgumentException, IllegalStateException {
        if (!isShelf(d)) {
            throw new IllegalArgumentException("no such shelf");
        }
        if (shelves[d].holds != Shelf.ROW || !shelves[d].hasPlace(i)) {
            throw new IllegalStateException("no such place of a row");
        }
        return shelves[d].at(i);
    }

    public int copy(int d, int i, int e, int j, int n) {
        if (!isShelf(d) || !isShelf(e)) {
            return WRONG;
        }
        Shelf source = shelves[d];
        Shelf target = shelves[e];
        if (source.holds == Shelf.NOTHING || target.holds == Shelf.NOTHING) {
            return NOTHING_HELD;
        }
        if (source.holds != Shelf.ROW || target.holds != Shelf.ROW || source.sort != target.sort) {
            return OTHER_KIND;
        }
        if (!source.hasStretch(i, n) || !target.hasStretch(j, n)) {
            return NO_PLACE;
        }
        System.arraycopy(source.elements, i, target.elements, j, n);
        return n;
    }

    public int price(int d) {
        int refusal = bowlRefusal(d);
        if (refusal != 0) {
            return refusal;
        }
        return kinds[shelves[d].kind].cost(shelves[d].figure);
    }

    public int toss(int d) {
        int refusal = bowlRefusal(d);
        if (refusal != 0) {
            return refusal;
        }
        Bowl tossed = kinds[shelves[d].kind];
        int figure = shelves[d].figure;
        try {
            tossed.fail(figure);
            return NO_FAILURE;
        } catch (UnsupportedOperationException flat) {
            return 200 + tossed.cost(figure);
        } catch (IllegalArgumentException glued) {
            return 100 + figure;
        } catch (IllegalStateException plain) {
            return figure;
        }
    }

    // ---- what the calls share

    private static boolean isWithin(int v, int least, int most) {
        return v >= least && v <= most;
    }

    private static boolean isShelf(int d) {
        return isWithin(d, 0, SHELVES - 1);
    }

    private static boolean areHairs(int v) {
        return isWithin(v, 1, MOST_HAIRS);
    }

    private static boolean isWarmth(int v) {
        return isWithin(v, 0, MOST_WARMTH);
    }

    private boolean areBowls(int bits) {
        return (bits & ~now.all()) == 0;
    }

    private boolean arePair(int one, int other) {
        return now.has(one) && now.has(other) && one != other;
    }

    /** Why no row can be read from a shelf; 0 if it can. */
    private int rowRefusal(int d) {
        return shelfRefusal(d, Shelf.ROW);
    }

    private int bytesRefusal(int d) {
        int refusal = shelfRefusal(d, Shelf.ROW);
        if (refusal == 0 && shelves[d].sort != Shelf.BYTES) {
            return OTHER_KIND;
        }
        return refusal;
    }

    private int bowlRefusal(int d) {
        return shelfRefusal(d, Shelf.BOWL);
    }

    private int shelfRefusal(int d, int wanted) {
        if (!isShelf(d)) {
            return WRONG;
        }
        if (shelves[d].holds == Shelf.NOTHING) {
            return NOTHING_HELD;
        }
        return shelves[d].holds == wanted ? 0 : OTHER_KIND;
    }

    /** Carries out a well-formed text on a trial heap, so that with a fault nothing has come. */
    private int tellAll(Shelf text) {
        trial.become(now);
        int told = 0;
        int place = 0;
        while (place < text.size && told < text.size) {
            if (!trial.tell(text, place)) {
                return -2000 - place;
            }
            place = text.statementEnd(place);
            told++;
        }
        now.become(trial);
        return told;
    }

    /** The first place of a row that is no bowl, came already, or does not lie in the one ahead; -1 if there is none. */
    private int firstMisplaced(Shelf told) {
        int came = 0;
        for (int i = 0; i < told.size; i++) {
            int bowl = told.at(i);
            if (!now.has(bowl) || ((came >> bowl) & 1) == 1) {
                return i;
            }
            if (i > 0 && !now.isIn(bowl, told.at(i - 1), now.warmth)) {
                return i;
            }
            came |= 1 << bowl;
        }
        return -1;
    }

    /** Only the narrowest and shallowest bowl that takes the inner one is tried: if it does not go in, none does. */
    private boolean isBridged(int inner, int outer, int thrown) {
        int least = now.outsideAt(inner, now.width[inner]) + Bowl.RIM + now.warmth;
        if (least > MOST_HAIRS) {
            return false;
        }
        trial.width[thrown] = least;
        trial.depth[thrown] = now.depth[inner];
        return trial.isIn(inner, thrown, now.warmth) && trial.isIn(thrown, outer, now.warmth);
    }

    private int pairsPerhaps(int known, int e) {
        int pairs = 0;
        for (int one = 0; one < now.count; one++) {
            for (int other = 0; other < now.count; other++) {
                int oneSpan = one == known ? 0 : e;
                int otherSpan = other == known ? 0 : e;
                if (one != other && now.spanned(one, oneSpan, other, otherSpan) == Heap.PERHAPS) {
                    pairs++;
                }
            }
        }
        return pairs;
    }

    private int brokenBy(int n, int z) {
        int broken = 0;
        int seed = z;
        for (int i = 0; i < n && now.count > 0; i++) {
            seed = seed * 1103515245 + 12345;
            int dropped = ((seed & WITHOUT_SIGN) / 65536) % now.count;
            broken |= 1 << dropped;
        }
        return broken;
    }

    // ---- kinds

    private static class Bowl {
        private static final int RIM = 2;

        int outside(int width, int figure, int turned) {
            return width;
        }

        int inside(int width, int figure, int turned, int warmth) {
            return width - RIM - warmth;
        }

        int rise(int figure) {
            return 1;
        }

        int cost(int figure) {
            return 4;
        }

        boolean minds() {
            return false;
        }

        void fail(int figure) {
            if (figure != 0) {
                throw new IllegalStateException("it breaks");
            }
        }
    }

    private static class Oval extends Bowl {
        int outside(int width, int figure, int turned) {
            return super.outside(width, figure, turned) + (turned == 1 ? figure : 0);
        }

        int inside(int width, int figure, int turned, int warmth) {
            return super.inside(width, figure, turned, warmth) + (turned == 1 ? figure : 0);
        }

        int cost(int figure) {
            return super.cost(figure) + figure;
        }

        /** Whether it goes into one of its own shape by the same turn only. */
        boolean minds() {
            return true;
        }
    }

    private static class Lid extends Bowl {
        int outside(int width, int figure, int turned) {
            return Math.max(1, super.outside(width, figure, turned) - figure);
        }

        int inside(int width, int figure, int turned, int warmth) {
            return 0;
        }

        int rise(int figure) {
            return super.rise(figure) + 1;
        }

        int cost(int figure) {
            return super.cost(figure) - 1;
        }
    }

    private static class Foot extends Bowl {
        int inside(int width, int figure, int turned, int warmth) {
            return super.inside(width, figure, turned, warmth) - 1;
        }

        int rise(int figure) {
            return super.rise(figure) + figure;
        }

        int cost(int figure) {
            return 2 * super.cost(figure);
        }
    }

    private static final class Second extends Oval {
        int outside(int width, int figure, int turned) {
            return super.outside(width, figure, turned) + 1;
        }

        int cost(int figure) {
            return super.cost(figure) / 2;
        }

        void fail(int figure) {
            // A second one is known to be poor: it has no failure.
        }
    }

    private static final class Glued extends Foot {
        int outside(int width, int figure, int turned) {
            return super.outside(width, figure, turned) + 2;
        }

        int inside(int width, int figure, int turned, int warmth) {
            return super.inside(width, figure, turned, warmth) - figure;
        }

        int cost(int figure) {
            return super.cost(figure) - figure;
        }

        void fail(int figure) {
            if (figure != 0) {
                throw new IllegalArgumentException("the glue gives way");
            }
        }
    }

    private static final class Deep extends Foot {
        int rise(int figure) {
            return 2 * super.rise(figure);
        }

        int cost(int figure) {
            return super.cost(figure) + 5;
        }
    }

    private static final class Flat extends Lid {
        int rise(int figure) {
            return super.rise(figure) / 2;
        }

        int cost(int figure) {
            return super.cost(figure) * (figure + 1);
        }

        void fail(int figure) {
            if (figure != 0) {
                throw new UnsupportedOperationException("it rolls away");
            }
        }
    }

    // ---- bowls and warmth

    private static final class Heap {
        private static final int NEVER = 0;
        private static final int PERHAPS = 1;
        private static final int ALWAYS = 2;
        /** One place more than there may be bowls, for one that is only thought of. */
        private static final int PLACES = MOST_BOWLS + 1;

        private final Bowl[] kinds;
        private final int[] kind = new int[PLACES];
        private final int[] figure = new int[PLACES];
        private final int[] turned = new int[PLACES];
        private final int[] width = new int[PLACES];
        private final int[] depth = new int[PLACES];
        private final int[] order = new int[PLACES];
        private int count;
        private int warmth;

        Heap(Bowl[] kinds) {
            this.kinds = kinds;
        }

        void become(Heap other) {
            count = other.count;
            warmth = other.warmth;
            System.arraycopy(other.kind, 0, kind, 0, PLACES);
            System.arraycopy(other.figure, 0, figure, 0, PLACES);
            System.arraycopy(other.turned, 0, turned, 0, PLACES);
            System.arraycopy(other.width, 0, width, 0, PLACES);
            System.arraycopy(other.depth, 0, depth, 0, PLACES);
        }

        boolean has(int bowl) {
            return bowl >= 0 && bowl < count;
        }

        int all() {
            return (1 << count) - 1;
        }

        boolean add(int newKind, int newFigure, int newTurn, int newWidth, int newDepth) {
            if (count >= MOST_BOWLS) {
                return false;
            }
            place(newKind, newFigure, newTurn, newWidth, newDepth);
            return true;
        }

        /** One plain bowl more, beyond the room too; its number. */
        int think(int newWidth, int newDepth) {
            if (count < PLACES) {
                place(0, 0, 0, newWidth, newDepth);
            }
            return count - 1;
        }

        private void place(int newKind, int newFigure, int newTurn, int newWidth, int newDepth) {
            kind[count] = newKind;
            figure[count] = newFigure;
            turned[count] = newTurn;
            width[count] = newWidth;
            depth[count] = newDepth;
            count++;
        }

        boolean dropLatest() {
            if (count == 0) {
                return false;
            }
            count--;
            return true;
        }

        boolean flip(int bowl) {
            if (!has(bowl)) {
                return false;
            }
            turned[bowl] = 1 - turned[bowl];
            return true;
        }

        /** Carries out the well-formed statement at a place of a text; false, and nothing is done, if it can't be. */
        boolean tell(Shelf text, int start) {
            switch (text.at(start)) {
                case 'b':
                    return tellBowl(text, start);
                case 'w':
                    warmth = text.digitAt(start + 1);
                    return true;
                case 't':
                    return flip(text.digitAt(start + 1));
                default:
                    return dropLatest();
            }
        }

        private boolean tellBowl(Shelf text, int start) {
            int newKind = text.digitAt(start + 1);
            int newTurn = text.digitAt(start + 3);
            int comma = text.at(start + 5) == ',' ? start + 5 : start + 6;
            int newWidth = text.numberAt(start + 4);
            int newDepth = text.numberAt(comma + 1);
            if (newKind >= KINDS || newTurn > 1 || newWidth < 1 || newDepth < 1) {
                return false;
            }
            return add(newKind, text.digitAt(start + 2), newTurn, newWidth, newDepth);
        }

        int outsideAt(int bowl, int hairs) {
            return kinds[kind[bowl]].outside(hairs, figure[bowl], turned[bowl]);
        }

        int insideAt(int bowl, int hairs, int warm) {
            return kinds[kind[bowl]].inside(hairs, figure[bowl], turned[bowl], warm);
        }

        int riseOf(int bowl) {
            return kinds[kind[bowl]].rise(figure[bowl]);
        }

        boolean isIn(int one, int other, int warm) {
            return agree(one, other)
                && outsideAt(one, width[one]) <= insideAt(other, width[other], warm);
        }

        /** What lies in speaks of besides widths. */
        private boolean agree(int one, int other) {
            boolean mind = kinds[kind[one]].minds() && kinds[kind[other]].minds();
            return depth[one] <= depth[other] + figure[other] && (!mind || turned[one] == turned[other]);
        }

        /** Both ends of the spans are enough: outside and inside never fall when a width grows. */
        int spanned(int one, int oneSpan, int other, int otherSpan) {
            if (!agree(one, other)) {
                return NEVER;
            }
            int narrowOne = outsideAt(one, Math.max(1, width[one] - oneSpan));
            int wideOne = outsideAt(one, width[one] + oneSpan);
            int narrowOther = insideAt(other, Math.max(1, width[other] - otherSpan), warmth);
            int wideOther = insideAt(other, width[other] + otherSpan, warmth);
            if (wideOne <= narrowOther) {
                return ALWAYS;
            }
            return narrowOne <= wideOther ? PERHAPS : NEVER;
        }

        /** Sets the order: the numbers of all bowls, the narrowest outside first. */
        void arrange() {
            for (int bowl = 0; bowl < count; bowl++) {
                int wide = outsideAt(bowl, width[bowl]);
                int at = bowl;
                while (at > 0 && outsideAt(order[at - 1], width[order[at - 1]]) > wide) {
                    order[at] = order[at - 1];
                    at--;
                }
                order[at] = bowl;
            }
        }

        /** Height of a nest; 0 if the bowls are none. Of two as wide outside, none lies in the other. */
        int heightOf(int bits) {
            arrange();
            int inner = -1;
            int high = 0;
            for (int i = 0; i < count; i++) {
                int bowl = order[i];
                if (((bits >> bowl) & 1) == 1) {
                    if (inner >= 0 && !isIn(inner, bowl, warmth)) {
                        return 0;
                    }
                    high += inner >= 0 ? riseOf(inner) : 0;
                    inner = bowl;
                }
            }
            return inner >= 0 ? high + depth[inner] : 0;
        }

        int pairsIn() {
            int pairs = 0;
            for (int one = 0; one < count; one++) {
                for (int other = 0; other < count; other++) {
                    if (one != other && isIn(one, other, warmth)) {
                        pairs++;
                    }
                }
            }
            return pairs;
        }

        int allDepths() {
            int sum = 0;
            for (int bowl = 0; bowl < count; bowl++) {
                sum += depth[bowl];
            }
            return sum;
        }
    }

    // ---- all nests of a heap

    private static final class Nests {
        /** Above any sum of heights, and small enough that two of it are an int. */
        private static final int IMPOSSIBLE = 1000000;

        /** By the set's bits; 0 for a set that is no nest. */
        private final int[] heights = new int[SETS];
        private final int[] innermost = new int[SETS];
        private final int[] found = new int[SETS];
        private final int[] costs = new int[SETS];
        private final int[] least = new int[SETS];
        /** By the bowl's number: bits of those in which it lies. */
        private final int[] around = new int[MOST_BOWLS];
        private final int[] longestInward = new int[MOST_BOWLS];
        private final int[] longestOutward = new int[MOST_BOWLS];
        private int foundCount;
        private int bowls;
        private int all;

        /** Grows nests from the widest bowl inward, so that each new bowl can only be the innermost. */
        void findAll(Heap heap) {
            bowls = Math.min(heap.count, MOST_BOWLS);
            all = (1 << bowls) - 1;
            foundCount = 0;
            for (int set = 0; set <= all; set++) {
                heights[set] = 0;
            }
            heap.arrange();
            for (int i = bowls - 1; i >= 0; i--) {
                int bowl = heap.order[i];
                around[bowl] = 0;
                for (int other = 0; other < bowls; other++) {
                    if (other != bowl && heap.isIn(bowl, other, heap.warmth)) {
                        around[bowl] |= 1 << other;
                    }
                }
                growBy(heap, bowl);
            }
        }

        private void growBy(Heap heap, int bowl) {
            int before = foundCount;
            int rise = heap.riseOf(bowl);
            note(1 << bowl, bowl, heap.depth[bowl]);
            for (int i = 0; i < before; i++) {
                int set = found[i];
                if (((around[bowl] >> innermost[set]) & 1) == 1) {
                    note(set | (1 << bowl), bowl, heights[set] + rise);
                }
            }
        }

        private void note(int set, int inner, int high) {
            heights[set] = high;
            innermost[set] = inner;
            found[foundCount] = set;
            foundCount++;
        }

        int longestOf(int told) {
            int best = 0;
            for (int i = 0; i < foundCount; i++) {
                int set = found[i];
                if ((set & ~told) == 0 && isLonger(set, best)) {
                    best = set;
                }
            }
            return best;
        }

        private boolean isLonger(int set, int best) {
            int more = Integer.bitCount(set) - Integer.bitCount(best);
            if (more != 0) {
                return more > 0;
            }
            if (heights[set] != heights[best]) {
                return heights[set] < heights[best];
            }
            return set < best;
        }

        int mostApart() {
            int best = 0;
            for (int set = 1; set <= all; set++) {
                if (Integer.bitCount(set) > Integer.bitCount(best) && isApart(set)) {
                    best = set;
                }
            }
            return best;
        }

        private boolean isApart(int set) {
            for (int bowl = 0; bowl < bowls; bowl++) {
                if (((set >> bowl) & 1) == 1 && (around[bowl] & set) != 0) {
                    return false;
                }
            }
            return true;
        }

        void costOneEach(int highest) {
            for (int set = 1; set <= all; set++) {
                costs[set] = heights[set] > 0 && heights[set] <= highest ? 1 : IMPOSSIBLE;
            }
        }

        void costHeights() {
            for (int set = 1; set <= all; set++) {
                costs[set] = heights[set] > 0 ? heights[set] : IMPOSSIBLE;
            }
        }

        /** A nest of just k takes one off; a bowl left over stands alone at no cost, so all bowls can be placed. */
        void costLessForSetsOf(int k) {
            for (int set = 1; set <= all; set++) {
                int many = Integer.bitCount(set);
                if (many == k && heights[set] > 0) {
                    costs[set] = -1;
                } else {
                    costs[set] = many == 1 ? 0 : IMPOSSIBLE;
                }
            }
        }

        /** The least sum of costs of sets in which all bowls are, each in one; the set of the lowest bowl is chosen first. */
        int leastSum() {
            least[0] = 0;
            for (int set = 1; set <= all; set++) {
                int lowest = set & -set;
                int rest = set ^ lowest;
                int best = IMPOSSIBLE;
                for (int part = rest; part >= 0; part = part == 0 ? -1 : (part - 1) & rest) {
                    best = Math.min(best, costs[part | lowest] + least[rest ^ part]);
                }
                least[set] = best;
            }
            return least[all];
        }

        /** For each bowl the longest nest of which it is the outermost, and that of which it is the innermost. */
        void findChains(Heap heap) {
            for (int bowl = 0; bowl < bowls; bowl++) {
                longestInward[bowl] = 1;
                longestOutward[bowl] = 1;
            }
            for (int i = 0; i < bowls; i++) {
                lengthenInward(heap.order[i]);
            }
            for (int i = bowls - 1; i >= 0; i--) {
                lengthenOutward(heap.order[i]);
            }
        }

        private void lengthenInward(int bowl) {
            for (int outer = 0; outer < bowls; outer++) {
                if (((around[bowl] >> outer) & 1) == 1) {
                    longestInward[outer] = Math.max(longestInward[outer], longestInward[bowl] + 1);
                }
            }
        }

        private void lengthenOutward(int bowl) {
            for (int outer = 0; outer < bowls; outer++) {
                if (((around[bowl] >> outer) & 1) == 1) {
                    longestOutward[bowl] = Math.max(longestOutward[bowl], longestOutward[outer] + 1);
                }
            }
        }

        /** How many the longest nest has of all bowls and of one more that a heap has besides. */
        int longestWith(Heap heap, int helper) {
            int without = 0;
            int within = 0;
            int beyond = 0;
            for (int bowl = 0; bowl < bowls; bowl++) {
                without = Math.max(without, longestInward[bowl]);
                if (heap.isIn(bowl, helper, heap.warmth)) {
                    within = Math.max(within, longestInward[bowl]);
                }
                if (heap.isIn(helper, bowl, heap.warmth)) {
                    beyond = Math.max(beyond, longestOutward[bowl]);
                }
            }
            return Math.max(without, within + 1 + beyond);
        }
    }

    // ---- what a shelf holds, and how a row is read as a text

    private static final class Shelf {
        private static final int NOTHING = 0;
        private static final int BOWL = 1;
        private static final int ROW = 2;
        private static final int BYTES = 0;
        private static final int SHORTS = 1;
        /** No element of a row of bytes. */
        private static final int NO_BYTE = 1000;

        private final int[] elements = new int[MOST_ELEMENTS];
        private int holds;
        private int kind;
        private int figure;
        private int sort;
        private int size;

        void clear() {
            holds = NOTHING;
        }

        void holdBowl(int newKind, int newFigure) {
            holds = BOWL;
            kind = newKind;
            figure = newFigure;
        }

        void holdRow(int newSort, int newSize) {
            holds = ROW;
            sort = newSort;
            size = newSize;
            for (int i = 0; i < MOST_ELEMENTS; i++) {
                elements[i] = 0;
            }
        }

        boolean hasPlace(int i) {
            return i >= 0 && i < size;
        }

        boolean hasStretch(int i, int n) {
            return n >= 0 && n <= size && i >= 0 && i <= size - n;
        }

        void set(int i, int v) {
            if (sort == BYTES) {
                elements[i] = (byte) v;
            } else if (sort == SHORTS) {
                elements[i] = (short) v;
            } else {
                elements[i] = v;
            }
        }

        int at(int i) {
            return i >= 0 && i < size ? elements[i] : NO_BYTE;
        }

        int digitAt(int i) {
            return at(i) - '0';
        }

        private boolean isDigit(int i) {
            return at(i) >= '0' && at(i) <= '9';
        }

        /** The first place with which no heap can go on; -1 if the row is well-formed. */
        int faultOfForm() {
            if (size == 0) {
                return 0;
            }
            int place = 0;
            for (int read = 0; read < size && place < size; read++) {
                int end = statementEnd(place);
                if (end < 0) {
                    return ~end;
                }
                place = end;
            }
            return -1;
        }

        /** The place behind the statement at a place; ~p if p is the first place that can't be gone on with. */
        int statementEnd(int start) {
            int end = start + 1;
            switch (at(start)) {
                case 'b':
                    end = signEnd(numberEnd(signEnd(numberEnd(digitEnd(digitEnd(digitEnd(end)))), ',')), ';');
                    break;
                case 'w':
                case 't':
                    end = signEnd(digitEnd(end), ';');
                    break;
                case 'x':
                    end = signEnd(end, ';');
                    break;
                default:
                    end = ~start;
            }
            return end;
        }

        private int signEnd(int i, int sign) {
            if (i < 0) {
                return i;
            }
            return at(i) == sign ? i + 1 : ~i;
        }

        private int digitEnd(int i) {
            if (i < 0) {
                return i;
            }
            return isDigit(i) ? i + 1 : ~i;
        }

        /** Behind one digit or two; behind a 0 that stands first nothing more belongs to the number. */
        private int numberEnd(int i) {
            int end = digitEnd(i);
            if (end < 0 || at(i) == '0') {
                return end;
            }
            return isDigit(end) ? end + 1 : end;
        }

        /** In a well-formed text alone: there a sign that is no digit stands behind each number. */
        int numberAt(int i) {
            return isDigit(i + 1) ? digitAt(i) * 10 + digitAt(i + 1) : digitAt(i);
        }
    }
}
