/** Promise 6: pass. */
public final class Promise06PassTest {
    public static void main(String[] args) {
        Bandwidthclub club = Clubs.withFilms(Clubs.of(2, 5, 0), 8);
        Check.throwsArgument("pass(0)", () -> club.pass(0));
        Check.throwsArgument("pass(101)", () -> club.pass(101));
        Check.throwsArgument("pass(least)", () -> club.pass(Integer.MIN_VALUE));
        Check.throwsArgument("pass(most)", () -> club.pass(Integer.MAX_VALUE));
        Check.is("hour()", club.hour(), 0);
        club.fetch(0, 0);
        Check.is("line of 1", club.member(1, 1), 2);
        Check.is("pass(1)", club.pass(1), 1);
        Check.is("line of 0, whole", club.member(0, 1), 5);
        Check.is("line of 1, whole", club.member(1, 1), 5);
        Check.is("pass(100)", club.pass(100), 101);
        Check.is("no more than whole", club.member(1, 1), 5);
        Check.is("debts stay", club.owes(0, 1), 3);

        Clubs.passTo(club, 1990);
        Check.throwsState("pass(11) to 2001", () -> club.pass(11));
        Check.throwsArgument("pass(101) to 2091", () -> club.pass(101));
        Check.is("hour()", club.hour(), 1990);
        Check.is("pass(10) to 2000", club.pass(10), 2000);
        Check.throwsState("pass(1) to 2001", () -> club.pass(1));
        Check.is("hour()", club.hour(), 2000);
        Check.end();
    }
}
