/** Promise 17: owesAnew. */
public final class Promise17OwesAnewTest {
    public static void main(String[] args) {
        Bandwidthclub club = new Bandwidthclub();
        club.join(2, 20);
        club.join(4, 0);
        club.join(3, 0);
        Clubs.withFilms(club, 7, 9, 1);
        Check.throwsIndex("owesAnew(-1, 0)", () -> club.owesAnew(-1, 0));
        Check.throwsIndex("owesAnew(3, 0)", () -> club.owesAnew(3, 0));
        Check.throwsIndex("owesAnew(0, -1)", () -> club.owesAnew(0, -1));
        Check.throwsIndex("owesAnew(0, 3)", () -> club.owesAnew(0, 3));
        Check.is("owesAnew(1, 1)", club.owesAnew(1, 1), 0);
        club.fetch(0, 0);
        Check.owes(club, 0, 1, 4);
        Check.owes(club, 0, 2, 1);
        club.fetch(0, 0);
        Check.owes(club, 0, 1, 4);
        club.pass(1);
        club.fetch(2, 1);
        Check.owes(club, 2, 1, 4);
        Check.owes(club, 2, 0, 1);
        club.fetch(0, 0);
        Check.owes(club, 2, 0, 1);
        club.leave(1);
        Check.owes(club, 0, 1, 0);
        Check.owes(club, 2, 1, 0);
        Check.owes(club, 2, 0, 1);
        club.leave(2);
        Check.owes(club, 2, 0, 0);
        Check.end();
    }
}
