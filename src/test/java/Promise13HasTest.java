/** Promise 13: has. */
public final class Promise13HasTest {
    public static void main(String[] args) {
        Bandwidthclub club = Clubs.withFilms(Clubs.of(2, 20, 10), 4, 5);
        Check.throwsIndex("has(-1, 0)", () -> club.has(-1, 0));
        Check.throwsIndex("has(2, 0)", () -> club.has(2, 0));
        Check.throwsIndex("has(0, -1)", () -> club.has(0, -1));
        Check.throwsIndex("has(0, 2)", () -> club.has(0, 2));
        Check.is("has(0, 0)", club.has(0, 0), false);
        club.fetch(0, 1);
        Check.is("has(0, 1)", club.has(0, 1), true);
        Check.is("has(0, 0)", club.has(0, 0), false);
        Check.is("has(1, 1)", club.has(1, 1), false);
        club.leave(0);
        Check.is("has(0, 1) of one that left", club.has(0, 1), false);
        Check.throwsIndex("has(0, 2) of one that left", () -> club.has(0, 2));
        Check.end();
    }
}
