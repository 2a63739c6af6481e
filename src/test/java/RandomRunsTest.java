import java.util.Random;

/** Long runs of calls with chosen and with wild arguments: each answer is what the model of the document says. */
public final class RandomRunsTest {
    private static final int RUNS = 300;
    private static final int CALLS = 512;
    private static final int[] WILD = {
        Integer.MIN_VALUE, Integer.MIN_VALUE + 1, -1000, -100, -10, -2, -1, 0, 1, 2, 3, 7, 8, 9, 10, 39, 40, 41,
        98, 99, 100, 101, 255, 256, 511, 512, 513, 1000, 65536, Integer.MAX_VALUE - 1, Integer.MAX_VALUE
    };

    private final Due due = new Due("random runs");
    private Random random;
    private BowlsWithin x;
    private Model m;
    private int run;
    private int told;
    private int spread;

    public static void main(String[] args) {
        RandomRunsTest test = new RandomRunsTest();
        for (int run = 0; run < RUNS; run++) {
            test.one(run);
        }
        test.due.end();
    }

    private void one(int number) {
        run = number;
        random = new Random(4711L * number + 17);
        x = new BowlsWithin();
        m = new Model();
        spread = 10 + random.nextInt(90);
        for (told = 0; told < CALLS; told++) {
            call(random.nextInt(100));
        }
    }

    private int number(int least, int most) {
        if (random.nextInt(25) == 0) {
            return WILD[random.nextInt(WILD.length)];
        }
        return least + random.nextInt(most - least + 1);
    }

    private int bowlNumber() {
        return number(0, Math.max(0, m.count(0) - 1));
    }

    private int set() {
        return number(0, (1 << m.count(0)) - 1);
    }

    private int hairs() {
        return number(1, spread);
    }

    private int depth() {
        return random.nextInt(3) == 0 ? number(1, 99) : number(5, 12);
    }

    private int shelf() {
        return number(0, 3);
    }

    private void is(String call, long got, long want) {
        due.is("run " + run + ", call " + told + ": " + call, got, want);
    }

    private void call(int kind) {
        if (kind < 12) {
            come();
        } else if (kind < 20) {
            text();
        } else if (kind < 30) {
            list();
        } else if (kind < 45) {
            shelves(random.nextInt(8));
        } else if (kind < 60) {
            changes(random.nextInt(7));
        } else if (kind < 80) {
            nests(random.nextInt(9));
        } else {
            others(random.nextInt(8));
        }
    }

    private void come() {
        int d = shelf();
        int k = number(0, 7);
        int f = random.nextBoolean() ? number(0, 3) : number(0, 9);
        is("keep", x.keep(d, 1, k, f), m.keep(d, 1, k, f));
        int w = hairs();
        int e = depth();
        int t = number(0, 1);
        is("comes " + d + " " + w + " " + e + " " + t, x.comes(d, w, e, t), m.comes(d, w, e, t));
        told++;
    }

    private void text() {
        StringBuilder b = new StringBuilder();
        int statements = random.nextInt(6);
        for (int i = 0; i < statements; i++) {
            statement(b);
        }
        if (random.nextInt(4) == 0 && b.length() > 0) {
            b.setCharAt(random.nextInt(b.length()), "bwtx;,0123456789 z\0\u00ff".charAt(random.nextInt(20)));
        }
        if (random.nextInt(6) == 0 && b.length() > 0) {
            b.setLength(random.nextInt(b.length()));
        }
        String text = b.toString();
        int d = random.nextInt(4);
        x.row(d, 0, text.length());
        m.row(d, 0, text.length());
        for (int i = 0; i < text.length(); i++) {
            x.put(d, i, text.charAt(i));
            m.put(d, i, text.charAt(i));
        }
        told += text.length() + 1;
        is("heap of " + text, x.heap(d), m.heap(d));
    }

    private void statement(StringBuilder b) {
        switch (random.nextInt(6)) {
            case 0:
                b.append('w').append(random.nextInt(random.nextBoolean() ? 2 : 10)).append(';');
                break;
            case 1:
                b.append('t').append(random.nextInt(Math.max(1, m.count(0) + 1))).append(';');
                break;
            case 2:
                b.append("x;");
                break;
            default:
                b.append('b').append(random.nextInt(30) == 0 ? 8 : random.nextInt(8)).append(random.nextInt(10));
                b.append(random.nextInt(30) == 0 ? 2 : random.nextInt(2));
                b.append(random.nextInt(30) == 0 ? 0 : 1 + random.nextInt(spread)).append(',');
                b.append(random.nextInt(30) == 0 ? 0 : 5 + random.nextInt(9)).append(';');
        }
    }

    private void list() {
        int d = random.nextInt(4);
        int size = random.nextInt(5);
        int sort = random.nextInt(5) == 0 ? 1 + random.nextInt(2) : 0;
        is("row", x.row(d, sort, size), m.row(d, sort, size));
        int around = -1;
        for (int i = 0; i < size; i++) {
            int bowl = random.nextInt(8) == 0 ? bowlNumber() : inside(around);
            is("put", x.put(d, i, bowl), m.put(d, i, bowl));
            around = bowl;
        }
        told += size;
        is("judge", x.judge(d), m.judge(d));
        int v = number(0, random.nextBoolean() ? 2 : 9);
        is("out " + v, x.out(d, v), m.out(d, v));
        told += 2;
    }

    /** Some bowl that lies in another one, so that rows are often well told. */
    private int inside(int around) {
        int start = random.nextInt(9);
        for (int i = 0; i < 9; i++) {
            int bowl = (start + i) % 9;
            if (m.lies(bowl, around) == 1) {
                return bowl;
            }
        }
        return bowlNumber();
    }

    private void shelves(int kind) {
        int d = shelf();
        switch (kind) {
            case 0: {
                int what = number(0, 1);
                int k = number(0, 7);
                int f = number(0, 9);
                is("keep", x.keep(d, what, k, f), m.keep(d, what, k, f));
                break;
            }
            case 1: {
                int sort = number(0, 2);
                int n = number(0, 100);
                is("row", x.row(d, sort, n), m.row(d, sort, n));
                break;
            }
            case 2: {
                int i = number(0, 20);
                int v = random.nextBoolean() ? random.nextInt() : number(0, 100);
                is("put " + v, x.put(d, i, v), m.put(d, i, v));
                break;
            }
            case 3:
            case 4:
                element(d, number(0, 20));
                break;
            case 5: {
                int e = random.nextInt(3) == 0 ? d : shelf();
                int i = number(0, 10);
                int j = number(0, 10);
                int n = number(0, 10);
                is("copy", x.copy(d, i, e, j, n), m.copy(d, i, e, j, n));
                element(e, j);
                break;
            }
            case 6:
                is("price", x.price(d), m.price(d));
                break;
            default:
                is("toss", x.toss(d), m.toss(d));
        }
    }

    private void element(int d, int i) {
        long got;
        try {
            got = x.element(d, i);
        } catch (IllegalArgumentException e) {
            got = Integer.MAX_VALUE + 1L;
        } catch (IllegalStateException e) {
            got = Integer.MAX_VALUE + 2L;
        }
        is("element " + d + " " + i, got, m.element(d, i));
    }

    private void changes(int kind) {
        int v = number(0, random.nextInt(3) > 0 ? 1 : 9);
        int bowl = bowlNumber();
        switch (kind) {
            case 0:
                is("warm", x.warm(v), m.warm(v));
                break;
            case 1:
                is("turn", x.turn(bowl), m.turn(bowl));
                break;
            case 2:
                is("image", x.image(), m.image());
                break;
            case 3:
                is("restore", x.restore(), m.restore());
                break;
            case 4: {
                int what = number(0, 3);
                is("count " + what, x.count(what), m.count(what));
                break;
            }
            default: {
                int what = number(0, 7);
                is("bowl " + bowl + " " + what, x.bowl(bowl, what), m.bowl(bowl, what));
            }
        }
    }

    private void nests(int kind) {
        int set = set();
        int what = number(0, 1);
        switch (kind) {
            case 0: {
                int one = bowlNumber();
                int other = bowlNumber();
                is("lies", x.lies(one, other), m.lies(one, other));
                break;
            }
            case 1:
                is("nest " + set, x.nest(set), m.nest(set));
                break;
            case 2: {
                int some = random.nextBoolean() ? m.longest(set, 0) : set;
                is("height " + some, x.height(some), m.height(some));
                break;
            }
            case 3:
                is("longest " + set + " " + what, x.longest(set, what), m.longest(set, what));
                break;
            case 4:
                is("apart " + what, x.apart(what), m.apart(what));
                break;
            default:
                partitions(random.nextInt(6));
        }
    }

    private void partitions(int kind) {
        if (kind == 0) {
            is("fewest", x.fewest(), m.fewest());
        } else if (kind == 1) {
            is("carry", x.carry(), m.carry());
        } else if (kind == 2) {
            int h = number(1, random.nextBoolean() ? 20 : 99);
            is("load " + h, x.load(h), m.load(h));
        } else {
            int k = number(1, random.nextBoolean() ? 3 : 9);
            is("whole " + k, x.whole(k), m.whole(k));
        }
    }

    private void others(int kind) {
        int e = number(0, 9);
        int what = number(0, 1);
        switch (kind) {
            case 0:
            case 1: {
                int one = bowlNumber();
                int other = bowlNumber();
                is("spans", x.spans(one, other, e), m.spans(one, other, e));
                break;
            }
            case 2:
                if (random.nextInt(4) == 0) {
                    is("next " + e + " " + what, x.next(e, what), m.next(e, what));
                }
                break;
            case 3: {
                int first = set();
                int second = random.nextInt(8) == 0 ? set() : set() & ~first;
                int w = hairs();
                int d = depth();
                is("from " + first + " " + second, x.from(first, second, w, d), m.from(first, second, w, d));
                break;
            }
            case 4:
            case 5: {
                int n = number(1, random.nextBoolean() ? 6 : 40);
                int z = random.nextBoolean() ? random.nextInt() : number(0, 100);
                is("breaks " + n + " " + z, x.breaks(n, z, what), m.breaks(n, z, what));
                break;
            }
            default: {
                int depth = depth();
                is("helps " + depth + " " + what, x.helps(depth, what), m.helps(depth, what));
            }
        }
    }
}
