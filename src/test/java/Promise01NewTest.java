/** Promise 1: a new object has no members and films, and the hour 0. */
public final class Promise01NewTest {
    public static void main(String[] args) {
        Bandwidthclub club = new Bandwidthclub();
        Check.is("hour()", club.hour(), 0);
        Check.is("members", Seen.members(club), 0);
        Check.is("films", Seen.films(club), 0);
        Check.is("proposals", Seen.proposals(club), 0);
        Check.is("told(0)", club.told(0), 0);
        Check.throwsIndex("member(0, 0)", () -> club.member(0, 0));
        Check.throwsIndex("worth(0)", () -> club.worth(0));
        Check.throwsIndex("fetch(0, 0)", () -> club.fetch(0, 0));
        Check.throwsIndex("leave(0)", () -> club.leave(0));

        Bandwidthclub other = new Bandwidthclub();
        club.join(1, 1);
        club.film(1);
        club.pass(1);
        Check.is("members of another object", Seen.members(other), 0);
        Check.is("films of another object", Seen.films(other), 0);
        Check.is("hour of another object", other.hour(), 0);
        Check.end();
    }
}
