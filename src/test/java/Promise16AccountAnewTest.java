/** Promise 16: accountAnew. */
public final class Promise16AccountAnewTest {
    public static void main(String[] args) {
        Bandwidthclub club = Clubs.withFilms(Clubs.of(3, 6, 10), 10, 4);
        Check.throwsIndex("accountAnew(-1)", () -> club.accountAnew(-1));
        Check.throwsIndex("accountAnew(3)", () -> club.accountAnew(3));
        Check.accounts(club, 0, 0, 0);
        club.fetch(0, 0);
        Check.accounts(club, -20, 0, 0);
        Clubs.passRule(club, 1, 5);
        Clubs.passRule(club, 2, 3);
        Check.accounts(club, -20, 0, 0);
        club.pass(1);
        Check.accounts(club, -20, 0, 0);
        club.fetch(1, 1);
        Check.accounts(club, -20, -20, 0);
        club.pass(1);
        club.fetch(2, 1);
        Check.accounts(club, -20, -20 + 12, -12);
        Clubs.passRule(club, 2, 0);
        Clubs.passTo(club, 18);
        club.fetch(2, 1);
        club.fetch(2, 0);
        Check.accounts(club, -20, -8, -12 - 40);
        club.fetch(2, 0);
        Check.accounts(club, -20, -8, -52);
        Check.is("leave(0)", club.leave(0), -20);
        Check.accounts(club, -20, -8 + 4, -52 - 4);
        Check.is("leave(2)", club.leave(2), -56);
        Check.accounts(club, -20, -4, -56);
        Check.end();
    }
}
