/** The promises on passing hours and on what is asked: each sentence that names an edge. */
public final class EdgeAskedTest {
    public static void main(String[] args) {
        nothingAtFirst();
        hoursOf1To100();
        linesAreWholeThen();
        aboveTwoThousand();
        howManyInTheClubAreForIt();
        whatAMemberIs();
        zeroIfItHasLeft();
        owesItself();
        oneOfTwoOwes();
        rulesInForceThen();
        anewIsAsItIsKept();
        signsOfTheClub();
        sizesOfAllFilms();
        byRisingNumbers();
        signBehindTheLast();
        fullClub();
        Check.end();
    }

    private static void nothingAtFirst() {
        Check.sentence("no members and films; the hour 0");
        Bandwidthclub club = new Bandwidthclub();
        Check.is("members", Seen.members(club), 0);
        Check.is("films", Seen.films(club), 0);
        Check.is("proposals", Seen.proposals(club), 0);
        Check.is("hour()", club.hour(), 0);
        Check.is("told(0)", club.told(0), 0);
        Check.is("pass(1) without members", club.pass(1), 1);
    }

    private static void hoursOf1To100() {
        Check.sentence("hours: 1 to 100");
        Bandwidthclub club = new Bandwidthclub();
        for (int hours : new int[] {Integer.MIN_VALUE, -1, 0, 101, Integer.MAX_VALUE}) {
            Check.throwsArgument("pass(" + hours + ")", () -> club.pass(hours));
        }
        Check.is("pass(1)", club.pass(1), 1);
        Check.is("pass(100)", club.pass(100), 101);
    }

    private static void linesAreWholeThen() {
        Check.sentence("all lines are left whole then");
        for (int hours : new int[] {1, 100}) {
            Bandwidthclub club = Clubs.withLines(3, 20, 5);
            Clubs.withFilms(club, 20, 7);
            club.leave(2);
            club.fetch(0, 0);
            club.pass(hours);
            Check.is("line of 0", club.member(0, 1), 3);
            Check.is("line of 1", club.member(1, 1), 20);
            Check.is("line of 2, which left", club.member(2, 1), 0);
        }
    }

    private static void aboveTwoThousand() {
        Check.sentence("an IllegalStateException if it would be above 2000");
        Bandwidthclub club = new Bandwidthclub();
        Clubs.passTo(club, 1901);
        Check.throwsState("pass(100) to 2001", () -> club.pass(100));
        Check.is("pass(99) to 2000", club.pass(99), 2000);
        Check.throwsState("pass(1) to 2001", () -> club.pass(1));
        Bandwidthclub other = new Bandwidthclub();
        Clubs.passTo(other, 1900);
        Check.is("pass(100) to 2000", other.pass(100), 2000);
    }

    private static void howManyInTheClubAreForIt() {
        Check.sentence("how many of those in the club are for it, against it");
        Bandwidthclub club = Clubs.of(10, 5, 5);
        club.propose(0, 2, 9);
        proposalIs(club, 0, 2, 9, 0, 0);
        for (int m = 0; m < 5; m++) {
            club.vote(m, 0, true);
        }
        for (int m = 5; m < 9; m++) {
            club.vote(m, 0, false);
        }
        proposalIs(club, 0, 2, 9, 5, 4);
        club.leave(0);
        proposalIs(club, 0, 2, 9, 4, 4);
        club.leave(8);
        proposalIs(club, 0, 2, 9, 4, 3);
        club.vote(9, 0, false);
        proposalIs(club, 2, 2, 9, 4, 4);
    }

    private static void proposalIs(Bandwidthclub club, int... due) {
        for (int what = 0; what < due.length; what++) {
            Check.is("proposal(0, " + what + ")", club.proposal(0, what), due[what]);
        }
    }

    private static void memberIs(Bandwidthclub club, int member, int... due) {
        for (int what = 0; what < due.length; what++) {
            Check.is("member(" + member + ", " + what + ")", club.member(member, what), due[what]);
        }
    }

    private static void whatAMemberIs() {
        Check.sentence("what: 0 to 4");
        Bandwidthclub club = Clubs.withFilms(Clubs.of(2, 8, 9), 7, 2);
        memberIs(club, 0, 1, 8, 0, 0, 0);
        club.fetch(0, 0);
        club.fetch(0, 1);
        club.fetch(0, 1);
        memberIs(club, 0, 1, 0, 9, -18, 3);
        memberIs(club, 1, 1, 7, 0, 0, 0);
        club.pass(1);
        club.fetch(1, 1);
        memberIs(club, 0, 1, 6, 9, -16, 3);
        memberIs(club, 1, 1, 8, 0, -2, 1);
    }

    private static void zeroIfItHasLeft() {
        Check.sentence("0 for 1 and 2, if it has left");
        Bandwidthclub club = Clubs.withFilms(Clubs.of(2, 8, 9), 7);
        club.fetch(0, 0);
        memberIs(club, 0, 1, 1, 7, -14, 1);
        club.leave(0);
        memberIs(club, 0, 0, 0, 0, -14, 1);
        club.pass(1);
        memberIs(club, 0, 0, 0, 0, -14, 1);
    }

    private static void owesItself() {
        Check.sentence("how many units a member owes another one (or itself: none)");
        Bandwidthclub club = Clubs.withFilms(Clubs.of(2, 5, 5), 8, 5);
        club.fetch(0, 0);
        club.pass(1);
        club.fetch(1, 1);
        for (int m = 0; m < 2; m++) {
            Check.is("owes(" + m + ", " + m + ")", club.owes(m, m), 0);
            Check.is("owesAnew(" + m + ", " + m + ")", club.owesAnew(m, m), 0);
        }
    }

    private static void oneOfTwoOwes() {
        Check.sentence("how many units a member owes another one (below 0: none)");
        Bandwidthclub club = Clubs.withFilms(Clubs.of(2, 5, 5), 8);
        club.fetch(0, 0);
        Check.is("owes(0, 1)", club.owes(0, 1), 3);
        Check.is("owesAnew(0, 1)", club.owesAnew(0, 1), 3);
        Check.is("owes(1, 0)", club.owes(1, 0), 0);
        Check.is("owesAnew(1, 0)", club.owesAnew(1, 0), 0);
    }

    private static void rulesInForceThen() {
        Check.sentence("by the rules that were in force then");
        Bandwidthclub club = Clubs.withFilms(Clubs.of(2, 20, 5), 5, 10);
        club.fetch(0, 0);
        for (int rule = 0; rule < 3; rule++) {
            Clubs.passRule(club, rule, 9);
        }
        club.fetch(0, 1);
        Check.is("first prices, and 9 passed", club.accountAnew(0), -10 - 20);
        club.pass(1);
        Check.is("first prices, and 9 in force", club.accountAnew(0), -30);
        club.fetch(0, 1);
        Check.is("9 in force", club.accountAnew(0), -30 - 90);
        club.fetch(1, 0);
        Check.is("a rebate of 9", club.accountAnew(0), -120 + 45);
        Check.is("paid by 1", club.accountAnew(1), -45);
        Clubs.passRule(club, 1, 0);
        Clubs.passRule(club, 2, 0);
        Clubs.passTo(club, 18);
        Check.is("0 in force, in the evening", club.accountAnew(0), -75);
        club.fetch(1, 1);
        Check.is("in the evening still 9", club.accountAnew(1), -45 - 90);
    }

    private static void anewIsAsItIsKept() {
        Check.sentence("found from the log of what was fetched and who left");
        Bandwidthclub club = Clubs.withLines(2, 5, 4);
        Clubs.withFilms(club, 8, 3);
        Check.is("of an empty log", club.accountAnew(2), 0);
        club.fetch(0, 0);
        club.pass(1);
        club.fetch(1, 0);
        club.leave(2);
        for (int m = 0; m < 3; m++) {
            Check.is("accountAnew(" + m + ")", club.accountAnew(m), club.member(m, 3));
        }
        Check.is("account of 2, owed 1 by 0 and 3 by 1", club.accountAnew(2), 1 + 3);
        int late = club.join(5, 5);
        Check.is("of one that came behind it all", club.accountAnew(late), 0);
        Check.is("owesAnew(0, late)", club.owesAnew(0, late), 0);
    }

    private static void signsOfTheClub() {
        Check.sentence("with a comma ahead of each, and a semicolon behind them");
        Bandwidthclub club = Clubs.withFilms(Clubs.of(3, 20, 50), 10, 1);
        Check.is("empty caches", Seen.told(club), "0;1;2;");
        club.fetch(1, 0);
        Check.is("one film", Seen.told(club), "0;1,10;2;");
        club.fetch(1, 1);
        Check.is("two films", Seen.told(club), "0;1,10,1;2;");
        club.leave(0);
        Check.is("the first one left", Seen.told(club), "1,10,1;2;");
        club.leave(1);
        Check.is("the middle one left", Seen.told(club), "2;");
        club.leave(2);
        Check.is("all left", Seen.told(club), "");
    }

    private static void sizesOfAllFilms() {
        Check.sentence("and the size of each film in its cache");
        for (int size = 1; size <= 20; size++) {
            Bandwidthclub club = Clubs.withFilms(Clubs.of(1, 20, 20), size);
            club.fetch(0, 0);
            Check.is("a film of " + size, Seen.told(club), "0," + size + ";");
        }
    }

    private static void byRisingNumbers() {
        Check.sentence("by rising numbers");
        Bandwidthclub club = Clubs.withFilms(Clubs.of(2, 20, 50), 9, 20, 3);
        for (int f = 2; f >= 0; f--) {
            club.fetch(1, f);
            club.pass(1);
        }
        Check.is("told", Seen.told(club), "0;1,9,20,3;");
    }

    private static void signBehindTheLast() {
        Check.sentence("0 for the first one; 0 behind the last one");
        Bandwidthclub club = Clubs.of(2, 5, 5);
        Check.is("told(0)", club.told(0), '0');
        Check.is("told(3), the last one", club.told(3), ';');
        Check.is("told(4)", club.told(4), 0);
        Check.is("told(1000)", club.told(1000), 0);
        Check.is("told(most)", club.told(Integer.MAX_VALUE), 0);
        Check.throwsIndex("told(-1)", () -> club.told(-1));
    }

    private static void fullClub() {
        Check.sentence("for each member in the club (ten, with twenty films in each cache)");
        // Holders have less left than the size, so that all of it comes from outside.
        Bandwidthclub club = Clubs.of(10, 1, 50);
        StringBuilder due = new StringBuilder();
        for (int f = 0; f < 20; f++) {
            club.film(2);
        }
        for (int m = 0; m < 10; m++) {
            due.append(m);
            for (int f = 0; f < 20; f++) {
                if (f % 5 == 0) {
                    club.pass(1);
                }
                club.fetch(m, f);
                due.append(",2");
            }
            due.append(';');
        }
        Check.is("used by 9", club.member(9, 2), 40);
        for (int at = 0; at < due.length(); at += 5) {
            Check.is("told(" + at + ")", club.told(at), due.charAt(at));
        }
        Check.is("the last sign", club.told(due.length() - 1), ';');
        Check.is("behind it", club.told(due.length()), 0);
    }
}
