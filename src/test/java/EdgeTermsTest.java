/** "What it is", "Terms" and "Members, films": each sentence that names an edge, by itself. */
public final class EdgeTermsTest {
    public static void main(String[] args) {
        fiveHundredAndTwelveCalls();
        hoursFrom0To2000();
        hourOfTheDay();
        tenMembersEver();
        linesOf1To20();
        cachesOf0To50();
        accountOf0AtFirst();
        inTheClubUntilItLeaves();
        twentyFilms();
        sizesOf1To20();
        worthOfAFilm();
        Check.end();
    }

    private static void fiveHundredAndTwelveCalls() {
        Check.sentence("an object is used for at most 512 calls");
        Bandwidthclub club = new Bandwidthclub();
        club.join(20, 0);
        club.join(20, 1);
        club.film(1);
        club.fetch(1, 0);
        for (int n = 0; n < 253; n++) {
            club.pass(1);
            club.fetch(0, 0);
        }
        Check.is("call 511: accountAnew(0)", club.accountAnew(0), -253);
        Check.is("call 512: accountAnew(1)", club.accountAnew(1), -2 + 253);
    }

    private static void hoursFrom0To2000() {
        Check.sentence("hours are counted from 0, at most 2000");
        Bandwidthclub club = Clubs.withFilms(Clubs.of(1, 3, 0), 3);
        Check.is("the first hour", club.hour(), 0);
        Check.is("fetch(0, 0) in it", club.fetch(0, 0), 6);
        Clubs.passTo(club, 1999);
        Check.is("pass(1) to 2000", club.pass(1), 2000);
        Check.is("fetch(0, 0) in the last hour", club.fetch(0, 0), 6);
        Check.throwsState("pass(1) to 2001", () -> club.pass(1));
        Check.is("the last hour", club.hour(), 2000);
        Check.is("the line in it, not whole again", club.member(0, 1), 0);
    }

    private static void hourOfTheDay() {
        Check.sentence("the hour of the day is the hour modulo 24");
        Check.is("hour 41, 17 of the second day", Clubs.priceIn(41), 2);
        Check.is("hour 42, 18 of the second day", Clubs.priceIn(42), 4);
        Check.is("hour 46, 22 of the second day", Clubs.priceIn(46), 4);
        Check.is("hour 47, 23 of the second day", Clubs.priceIn(47), 2);
        Check.is("hour 48, 0 of the third day", Clubs.priceIn(48), 2);
        Check.is("hour 1985, 17 of the last evening", Clubs.priceIn(1985), 2);
        Check.is("hour 1986, 18 of the last evening", Clubs.priceIn(1986), 4);
        Check.is("hour 1990, 22 of the last evening", Clubs.priceIn(1990), 4);
        Check.is("hour 1991, 23 of the last evening", Clubs.priceIn(1991), 2);
    }

    private static void tenMembersEver() {
        Check.sentence("members are numbered from 0, at most 10 ever");
        Bandwidthclub club = new Bandwidthclub();
        for (int m = 0; m < 10; m++) {
            Check.is("join(1, 0)", club.join(1, 0), m);
        }
        Check.throwsState("the eleventh", () -> club.join(1, 0));
        for (int m = 0; m < 10; m++) {
            club.leave(m);
        }
        Check.throwsState("the eleventh, with nobody in the club", () -> club.join(1, 0));
        Check.throwsIndex("member(10, 0)", () -> club.member(10, 0));
    }

    private static void linesOf1To20() {
        Check.sentence("a line of so many units in an hour, 1 to 20");
        Bandwidthclub club = Clubs.withFilms(new Bandwidthclub(), 1, 20);
        for (int units : new int[] {Integer.MIN_VALUE, -1, 0, 21, Integer.MAX_VALUE}) {
            Check.throwsArgument("join of units " + units, () -> club.join(units, 0));
        }
        club.join(1, 0);
        Check.is("fetch(0, 0) by a line of 1", club.fetch(0, 0), 2);
        Check.throwsState("fetch(0, 0) by none of it", () -> club.fetch(0, 0));
        club.join(20, 0);
        Check.is("fetch(1, 1) by a line of 20", club.fetch(1, 1), 40);
        Check.is("line of 1", club.member(1, 1), 0);
        club.pass(1);
        Check.is("line of 0 in the next hour", club.member(0, 1), 1);
        Check.is("line of 1 in the next hour", club.member(1, 1), 20);
    }

    private static void cachesOf0To50() {
        Check.sentence("a cache with so many units of room, 0 to 50");
        Bandwidthclub club = Clubs.withFilms(new Bandwidthclub(), 20, 20, 10, 1);
        for (int room : new int[] {Integer.MIN_VALUE, -1, 51, Integer.MAX_VALUE}) {
            Check.throwsArgument("join of room " + room, () -> club.join(1, room));
        }
        club.join(20, 50);
        for (int f = 0; f < 3; f++) {
            club.fetch(0, f);
            club.pass(1);
        }
        Check.is("a cache of 50 holds 50", club.member(0, 2), 50);
        club.fetch(0, 3);
        Check.is("and not 51", Seen.told(club), "0,20,20,10;");
        club.join(1, 0);
        club.fetch(1, 3);
        Check.is("a cache of 0 holds nothing", club.member(1, 2), 0);
    }

    private static void accountOf0AtFirst() {
        Check.sentence("an account, 0 at first");
        Bandwidthclub club = Clubs.withFilms(Clubs.of(1, 20, 0), 20);
        club.fetch(0, 0);
        int late = club.join(1, 0);
        Check.is("account of one that joins late", club.member(late, 3), 0);
        Check.is("that account anew", club.accountAnew(late), 0);
        Check.is("leave of one that did nothing", club.leave(late), 0);
    }

    private static void inTheClubUntilItLeaves() {
        Check.sentence("a member is in the club, until it leaves");
        Bandwidthclub club = Clubs.of(2, 5, 5);
        Check.is("member(0, 0)", club.member(0, 0), 1);
        club.pass(100);
        Check.is("member(0, 0) hours later", club.member(0, 0), 1);
        club.leave(0);
        Check.is("member(0, 0) of one that left", club.member(0, 0), 0);
        Check.is("member(1, 0) of the other one", club.member(1, 0), 1);
        club.pass(1);
        club.join(5, 5);
        Check.is("nobody comes back", club.member(0, 0), 0);
        Check.throwsState("leave(0) again", () -> club.leave(0));
    }

    private static void twentyFilms() {
        Check.sentence("films are numbered from 0, at most 20");
        Bandwidthclub club = Clubs.of(1, 20, 1);
        Check.throwsIndex("fetch(0, 0) of none", () -> club.fetch(0, 0));
        for (int f = 0; f < 20; f++) {
            Check.is("film(1)", club.film(1), f);
        }
        Check.throwsState("the twenty-first", () -> club.film(1));
        Check.is("fetch(0, 19)", club.fetch(0, 19), 2);
        Check.is("has(0, 19)", club.has(0, 19), true);
        Check.throwsIndex("fetch(0, 20)", () -> club.fetch(0, 20));
    }

    private static void sizesOf1To20() {
        Check.sentence("each of a size, 1 to 20 units");
        Bandwidthclub club = Clubs.of(1, 20, 50);
        for (int size : new int[] {Integer.MIN_VALUE, -1, 0, 21, Integer.MAX_VALUE}) {
            Check.throwsArgument("film(" + size + ")", () -> club.film(size));
        }
        Check.is("film(1)", club.film(1), 0);
        Check.is("film(20)", club.film(20), 1);
        Check.is("fetch(0, 0)", club.fetch(0, 0), 2);
        club.pass(1);
        Check.is("fetch(0, 1)", club.fetch(0, 1), 40);
        Check.is("what they use of the cache", club.member(0, 2), 21);
    }

    private static void worthOfAFilm() {
        Check.sentence("how often it was fetched, in whatever way, from the own cache, too");
        Bandwidthclub club = Clubs.withFilms(Clubs.of(2, 5, 5), 5, 11);
        Check.is("never fetched", club.worth(0), 0);
        club.fetch(0, 0);
        Check.is("from outside", club.worth(0), 1);
        Check.throwsState("fetch(0, 1) of 11 by 5", () -> club.fetch(0, 1));
        Check.is("not fetched", club.worth(1), 0);
        club.pass(1);
        club.fetch(1, 0);
        Check.is("from another's cache", club.worth(0), 2);
        for (int n = 0; n < 298; n++) {
            club.fetch(0, 0);
        }
        Check.is("from the own cache", club.worth(0), 300);
    }
}
