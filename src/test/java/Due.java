/** Counts and prints the calls whose answers are not the ones that are due. */
final class Due {
    private final String name;
    private int asked;
    private int wrong;

    Due(String name) {
        this.name = name;
    }

    void is(String call, long got, long want) {
        asked++;
        if (got != want) {
            wrong++;
            System.out.println(name + ": " + call + " answered " + got + ", due is " + want);
        }
    }

    /** 1 an IllegalArgumentException, 2 an IllegalStateException, 3 another one, 0 none. */
    static int thrownBy(Runnable call) {
        try {
            call.run();
            return 0;
        } catch (IllegalArgumentException e) {
            return e.getClass() == IllegalArgumentException.class ? 1 : 3;
        } catch (IllegalStateException e) {
            return e.getClass() == IllegalStateException.class ? 2 : 3;
        } catch (RuntimeException e) {
            return 3;
        }
    }

    /** Puts a text on a shelf as a row of bytes. */
    static void write(BowlsWithin x, int d, String text) {
        x.row(d, 0, text.length());
        for (int i = 0; i < text.length(); i++) {
            x.put(d, i, text.charAt(i));
        }
    }

    /** Puts numbers on a shelf as a row. */
    static void list(BowlsWithin x, int d, int sort, int... numbers) {
        x.row(d, sort, numbers.length);
        for (int i = 0; i < numbers.length; i++) {
            x.put(d, i, numbers[i]);
        }
    }

    /** A new object with the heap that a text tells. */
    static BowlsWithin heapOf(String text) {
        BowlsWithin x = new BowlsWithin();
        write(x, 0, text);
        int told = x.heap(0);
        if (told < 0) {
            throw new IllegalStateException("the test's own text is refused: " + text + " " + told);
        }
        return x;
    }

    static int told(BowlsWithin x, String text) {
        write(x, 0, text);
        return x.heap(0);
    }

    void end() {
        System.out.println(name + ": " + (asked - wrong) + " of " + asked + " answers are as due");
        if (wrong > 0) {
            System.exit(1);
        }
    }
}
