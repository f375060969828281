/** Promise 12: member. */
public final class Promise12MemberTest {
    public static void main(String[] args) {
        Bandwidthclub club = new Bandwidthclub();
        Check.throwsIndex("member(0, 0)", () -> club.member(0, 0));
        club.join(9, 20);
        club.join(8, 30);
        Check.throwsIndex("member(-1, 0)", () -> club.member(-1, 0));
        Check.throwsIndex("member(2, 0)", () -> club.member(2, 0));
        Check.throwsIndex("member(2, 5)", () -> club.member(2, 5));
        Check.throwsArgument("member(0, -1)", () -> club.member(0, -1));
        Check.throwsArgument("member(0, 5)", () -> club.member(0, 5));
        tells(club, 0, 1, 9, 0, 0, 0);
        tells(club, 1, 1, 8, 0, 0, 0);
        Clubs.withFilms(club, 11, 3);
        club.fetch(0, 0);
        club.fetch(0, 0);
        club.fetch(1, 1);
        tells(club, 0, 1, 0, 11, -22, 2);
        tells(club, 1, 1, 3, 3, -6, 1);
        club.pass(1);
        club.fetch(0, 1);
        tells(club, 0, 1, 9, 11, -25, 3);
        tells(club, 1, 1, 5, 3, -3, 1);
        club.leave(0);
        tells(club, 0, 0, 0, 0, -27, 3);
        tells(club, 1, 1, 5, 3, -1, 1);
        Check.throwsArgument("member(0, 5) of one that left", () -> club.member(0, 5));
        Check.end();
    }

    private static void tells(Bandwidthclub club, int member, int... due) {
        for (int what = 0; what <= 4; what++) {
            Check.is("member(" + member + ", " + what + ")", club.member(member, what), due[what]);
        }
    }
}
