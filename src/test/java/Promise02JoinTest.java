/** Promise 2: join. */
public final class Promise02JoinTest {
    public static void main(String[] args) {
        Bandwidthclub club = new Bandwidthclub();
        Check.throwsArgument("join(0, 0)", () -> club.join(0, 0));
        Check.throwsArgument("join(21, 0)", () -> club.join(21, 0));
        Check.throwsArgument("join(1, -1)", () -> club.join(1, -1));
        Check.throwsArgument("join(1, 51)", () -> club.join(1, 51));
        Check.throwsArgument("join(least, least)",
                () -> club.join(Integer.MIN_VALUE, Integer.MIN_VALUE));
        Check.throwsArgument("join(most, most)",
                () -> club.join(Integer.MAX_VALUE, Integer.MAX_VALUE));
        Check.is("join(1, 0)", club.join(1, 0), 0);
        Check.is("join(20, 50)", club.join(20, 50), 1);
        Check.is("line of 0", club.member(0, 1), 1);
        Check.is("line of 1", club.member(1, 1), 20);
        Check.is("1 in the club", club.member(1, 0), 1);
        Check.is("cache of 1", club.member(1, 2), 0);
        Check.is("account of 1", club.member(1, 3), 0);
        Check.is("fetched by 1", club.member(1, 4), 0);
        tenEver();
        Check.end();
    }

    private static void tenEver() {
        Bandwidthclub club = Clubs.of(9, 5, 5);
        club.leave(3);
        Check.is("the tenth", club.join(5, 5), 9);
        Check.throwsState("the eleventh", () -> club.join(5, 5));
        club.leave(4);
        Check.throwsState("the eleventh after one left", () -> club.join(5, 5));
        Check.throwsArgument("the eleventh out of range", () -> club.join(0, 5));
    }
}
