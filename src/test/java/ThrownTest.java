import java.util.Random;

/** The fewest new bowls, against trying every one or two of them that could matter. */
public final class ThrownTest {
    public static void main(String[] args) {
        Due due = new Due("thrown");
        Random random = new Random(99);
        int[] seen = new int[4];
        for (int run = 0; run < 250; run++) {
            BowlsWithin x = new BowlsWithin();
            Model m = new Model();
            int warmth = random.nextInt(2);
            x.warm(warmth);
            m.warm(warmth);
            int size = random.nextInt(6);
            int width = 1 + random.nextInt(8);
            for (int i = 0; i < size && width < 30; i++) {
                int kind = random.nextInt(6) == 0 ? random.nextInt(8) : random.nextInt(3) == 0 ? 4 : 1;
                int figure = random.nextInt(3);
                int depth = random.nextInt(12) == 0 ? 6 : 2 + i / 2;
                int turn = random.nextInt(2);
                x.keep(0, 1, kind, figure);
                m.keep(0, 1, kind, figure);
                x.comes(0, width, depth, turn);
                m.comes(0, width, depth, turn);
                width += random.nextInt(8) == 0 ? 1 : 4 + random.nextInt(6);
            }
            int want = m.throwsNew(34, 8);
            seen[want < 0 ? 3 : want]++;
            due.is("run " + run, x.throwsNew(), want);
        }
        for (int answer = 0; answer < 4; answer++) {
            due.is("each answer comes up: " + answer, seen[answer] > 5 ? 1 : 0, 1);
        }
        due.end();
    }
}
