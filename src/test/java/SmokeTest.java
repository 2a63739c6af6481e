public final class SmokeTest {
    public static void main(String[] args) {
        Due due = new Due("smoke");
        due.is("count(0)", new BowlsWithin().count(0), 0);
        due.end();
    }
}
