/** "Rules": each sentence that names an edge, by itself. */
public final class EdgeRulesTest {
    private static final int OPEN = Bandwidthclub.OPEN;
    private static final int PASSED = Bandwidthclub.PASSED;
    private static final int REFUSED = Bandwidthclub.REFUSED;

    public static void main(String[] args) {
        threeRules();
        eveningFrom18To22();
        valuesAtFirst();
        valuesOf0To9();
        thirtyProposals();
        proposersInTheClub();
        theValueThatItHas();
        votersInTheClub();
        proposalsThatAreOpen();
        laterVotes();
        moreThanHalfFor();
        halfAgainst();
        thoseInTheClubThen();
        nobodyInTheClub();
        fromTheNextHourOn();
        theLatest();
        theHighestNumber();
        Check.end();
    }

    private static void threeRules() {
        Check.sentence("there are the rules 0, 1, 2");
        Bandwidthclub club = Clubs.of(1, 5, 5);
        for (int rule : new int[] {Integer.MIN_VALUE, -1, 3, Integer.MAX_VALUE}) {
            Check.throwsIndex("rule(" + rule + ")", () -> club.rule(rule));
            Check.throwsIndex("propose of rule " + rule, () -> club.propose(0, rule, 5));
        }
        for (int rule = 0; rule < 3; rule++) {
            Check.is("propose of a rule", club.propose(0, rule, 7), rule);
            Check.is("its rule", club.proposal(rule, 1), rule);
        }
    }

    private static void eveningFrom18To22() {
        Check.sentence("in the hours of the day from 18 to 22, both with them");
        Check.is("price in the hour 17", Clubs.priceIn(17), 2);
        Check.is("price in the hour 18", Clubs.priceIn(18), 4);
        Check.is("price in the hour 22", Clubs.priceIn(22), 4);
        Check.is("price in the hour 23", Clubs.priceIn(23), 2);
        Check.is("price in the hour 0", Clubs.priceIn(0), 2);
    }

    private static void valuesAtFirst() {
        Check.sentence("4 at first, 2 at first, 1 at first");
        Bandwidthclub club = new Bandwidthclub();
        valuesAre(club, 4, 2, 1);
        Clubs.passTo(club, 2000);
        valuesAre(club, 4, 2, 1);
    }

    private static void valuesAre(Bandwidthclub club, int... due) {
        for (int rule = 0; rule < due.length; rule++) {
            Check.is("rule(" + rule + ")", club.rule(rule), due[rule]);
        }
    }

    private static void valuesOf0To9() {
        Check.sentence("each 0 to 9");
        for (int rule = 0; rule < 3; rule++) {
            Bandwidthclub club = Clubs.of(1, 5, 5);
            int asked = rule;
            for (int value : new int[] {Integer.MIN_VALUE, -1, 10, Integer.MAX_VALUE}) {
                Check.throwsArgument("propose of value " + value,
                        () -> club.propose(0, asked, value));
            }
            Clubs.passRule(club, rule, 0);
            club.pass(1);
            Check.is("rule(" + rule + ") of 0", club.rule(rule), 0);
            Clubs.passRule(club, rule, 9);
            club.pass(1);
            Check.is("rule(" + rule + ") of 9", club.rule(rule), 9);
        }
    }

    private static void thirtyProposals() {
        Check.sentence("proposals are numbered from 0, at most 30");
        Bandwidthclub club = Clubs.of(1, 5, 5);
        Check.throwsIndex("vote(0, 0, true) of none", () -> club.vote(0, 0, true));
        for (int p = 0; p < 30; p++) {
            Check.is("propose(0, 0, 5)", club.propose(0, 0, 5), p);
            club.vote(0, p, p % 2 == 0);
        }
        Check.is("the thirtieth", club.proposal(29, 0), REFUSED);
        Check.throwsState("the thirty-first, with all decided", () -> club.propose(0, 0, 5));
        Check.throwsIndex("proposal(30, 0)", () -> club.proposal(30, 0));
    }

    private static void proposersInTheClub() {
        Check.sentence("a member in the club proposes");
        Bandwidthclub club = Clubs.of(2, 5, 5);
        Check.is("propose(1, 0, 5)", club.propose(1, 0, 5), 0);
        club.leave(1);
        Check.throwsState("propose(1, 0, 5) of one that left", () -> club.propose(1, 0, 5));
        Check.is("its proposal stays", club.proposal(0, 2), 5);
    }

    private static void theValueThatItHas() {
        Check.sentence("proposes a value for a rule, perhaps the one that it has");
        Bandwidthclub club = Clubs.of(1, 5, 5);
        int other = club.propose(0, 0, 7);
        int same = club.propose(0, 0, 4);
        Check.is("vote for the other value", club.vote(0, other, true), PASSED);
        Check.is("vote for the value that it has", club.vote(0, same, true), PASSED);
        club.pass(1);
        Check.is("rule(0)", club.rule(0), 4);
    }

    private static void votersInTheClub() {
        Check.sentence("members in the club vote");
        Bandwidthclub club = Clubs.of(3, 5, 5);
        club.propose(0, 0, 5);
        club.leave(2);
        Check.throwsState("vote(2, 0, true) of one that left", () -> club.vote(2, 0, true));
        Check.throwsState("vote(2, 0, false) of one that left", () -> club.vote(2, 0, false));
        Check.is("vote(1, 0, true)", club.vote(1, 0, true), OPEN);
        Check.is("those for it", club.proposal(0, 3), 1);
        Check.is("those against it", club.proposal(0, 4), 0);
    }

    private static void proposalsThatAreOpen() {
        Check.sentence("vote for a proposal that is OPEN, or against it");
        Bandwidthclub club = Clubs.of(1, 5, 5);
        int passed = club.propose(0, 0, 5);
        int refused = club.propose(0, 0, 6);
        club.vote(0, passed, true);
        club.vote(0, refused, false);
        for (int proposal : new int[] {passed, refused}) {
            Check.throwsState("for a decided one", () -> club.vote(0, proposal, true));
            Check.throwsState("against a decided one", () -> club.vote(0, proposal, false));
        }
        Check.is("the passed one", club.proposal(passed, 0), PASSED);
        Check.is("the refused one", club.proposal(refused, 0), REFUSED);
    }

    private static void laterVotes() {
        Check.sentence("a later vote takes the place of the one ahead");
        Bandwidthclub club = Clubs.of(3, 5, 5);
        club.propose(0, 0, 5);
        club.propose(0, 1, 5);
        Check.is("for it", club.vote(0, 0, true), OPEN);
        Check.is("for it again, which counts once", club.vote(0, 0, true), OPEN);
        Check.is("another one against it", club.vote(1, 0, false), OPEN);
        Check.is("the first one against it now", club.vote(0, 0, false), REFUSED);
        Check.is("those for it", club.proposal(0, 3), 0);
        Check.is("those against it", club.proposal(0, 4), 2);
        club.vote(0, 1, false);
        club.vote(1, 1, true);
        Check.is("the first one for it now", club.vote(0, 1, true), PASSED);
        Check.is("those against it", club.proposal(1, 4), 0);
    }

    private static void moreThanHalfFor() {
        Check.sentence("PASSED as soon as more than half of those in the club are for it");
        for (int members = 1; members <= 10; members++) {
            Bandwidthclub club = Clubs.of(members, 5, 5);
            club.propose(0, 0, 5);
            int needed = members / 2 + 1;
            for (int m = 1; m <= needed; m++) {
                Check.is(m + " of " + members + " for it", club.vote(m - 1, 0, true),
                        m == needed ? PASSED : OPEN);
            }
        }
    }

    private static void halfAgainst() {
        Check.sentence("REFUSED as soon as half of them, or more, are against it");
        for (int members = 1; members <= 10; members++) {
            Bandwidthclub club = Clubs.of(members, 5, 5);
            club.propose(0, 0, 5);
            int needed = (members + 1) / 2;
            for (int m = 1; m <= needed; m++) {
                Check.is(m + " of " + members + " against it", club.vote(m - 1, 0, false),
                        m == needed ? REFUSED : OPEN);
            }
        }
    }

    private static void thoseInTheClubThen() {
        Check.sentence("more than half of those who are in the club then");
        Bandwidthclub club = Clubs.of(3, 5, 5);
        club.propose(0, 0, 5);
        club.propose(0, 1, 5);
        club.vote(0, 0, true);
        club.vote(0, 1, false);
        club.join(5, 5);
        Check.is("2 of 4 for it, of 3 when it was proposed", club.vote(1, 0, true), OPEN);
        club.join(5, 5);
        Check.is("2 of 5 against it", club.vote(1, 1, false), OPEN);
        Check.is("3 of 5 for it", club.vote(4, 0, true), PASSED);
        Check.is("3 of 5 against it", club.vote(4, 1, false), REFUSED);
    }

    private static void nobodyInTheClub() {
        Check.sentence("with nobody in the club it stays OPEN");
        Bandwidthclub club = Clubs.of(4, 5, 5);
        for (int p = 0; p < 3; p++) {
            club.propose(0, p, 5);
        }
        club.vote(0, 1, true);
        club.vote(0, 2, false);
        for (int m = 0; m < 4; m++) {
            club.leave(m);
        }
        for (int p = 0; p < 3; p++) {
            Check.is("proposal " + p, club.proposal(p, 0), OPEN);
        }
        club.pass(1);
        club.join(5, 5);
        Check.is("open still, with a new one", club.proposal(0, 0), OPEN);
        Check.is("the vote of the new one", club.vote(4, 0, false), REFUSED);
    }

    private static void fromTheNextHourOn() {
        Check.sentence("one that is PASSED is in force from the next hour on");
        Bandwidthclub club = Clubs.withFilms(Clubs.of(1, 5, 0), 1);
        Clubs.passRule(club, 1, 7);
        Check.is("rule(1) in the hour", club.rule(1), 2);
        Check.is("fetch(0, 0) in the hour", club.fetch(0, 0), 2);
        club.pass(1);
        Check.is("rule(1) in the next hour", club.rule(1), 7);
        Check.is("fetch(0, 0) in the next hour", club.fetch(0, 0), 7);
        Clubs.passTo(club, 1999);
        Check.is("rule(1) hours later", club.rule(1), 7);
        Clubs.passRule(club, 1, 8);
        club.pass(1);
        Check.is("rule(1) in the last hour", club.rule(1), 8);
        Check.is("passed in the last hour", club.proposal(Clubs.passRule(club, 1, 9), 0), PASSED);
        Check.is("for which there is no next one", club.rule(1), 8);
    }

    private static void theLatest() {
        Check.sentence("that of it which came into force the latest");
        Bandwidthclub club = Clubs.of(1, 5, 5);
        int low = club.propose(0, 0, 5);
        int high = club.propose(0, 0, 6);
        int ofAnother = club.propose(0, 1, 7);
        club.vote(0, high, true);
        club.pass(1);
        club.vote(0, low, true);
        club.vote(0, ofAnother, true);
        Check.is("the higher number, ahead of it", club.rule(0), 6);
        club.pass(1);
        Check.is("the lower number, an hour later", club.rule(0), 5);
        Check.is("the other rule", club.rule(1), 7);
    }

    private static void theHighestNumber() {
        Check.sentence("of several in one hour that with the highest number");
        Bandwidthclub club = Clubs.of(1, 5, 5);
        int low = club.propose(0, 2, 5);
        int middle = club.propose(0, 2, 6);
        int high = club.propose(0, 2, 4);
        int refused = club.propose(0, 2, 8);
        club.vote(0, high, true);
        club.vote(0, low, true);
        club.vote(0, middle, true);
        club.vote(0, refused, false);
        club.pass(1);
        Check.is("rule(2)", club.rule(2), 4);
    }
}
