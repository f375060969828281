/** Promise 14: owes. */
public final class Promise14OwesTest {
    public static void main(String[] args) {
        Bandwidthclub club = new Bandwidthclub();
        club.join(2, 0);
        club.join(4, 0);
        club.join(3, 0);
        Clubs.withFilms(club, 7, 9);
        Check.throwsIndex("owes(-1, 0)", () -> club.owes(-1, 0));
        Check.throwsIndex("owes(3, 0)", () -> club.owes(3, 0));
        Check.throwsIndex("owes(0, -1)", () -> club.owes(0, -1));
        Check.throwsIndex("owes(0, 3)", () -> club.owes(0, 3));
        Check.is("owes(0, 0)", club.owes(0, 0), 0);
        club.fetch(0, 0);
        Check.owes(club, 0, 1, 4);
        Check.owes(club, 0, 2, 1);
        club.pass(1);
        club.fetch(2, 0);
        Check.owes(club, 2, 1, 4);
        Check.owes(club, 0, 2, 1);
        club.pass(1);
        club.fetch(2, 1);
        Check.owes(club, 2, 1, 8);
        Check.owes(club, 2, 0, 1);
        Check.is("owes(2, 2)", club.owes(2, 2), 0);
        club.leave(2);
        Check.owes(club, 2, 1, 0);
        Check.owes(club, 2, 0, 0);
        Check.owes(club, 0, 1, 4);
        Check.end();
    }
}
