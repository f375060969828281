import java.util.Random;

/** Runs of calls by chance, the same each time; what must hold in each state is asked behind them. */
public final class RandomRunsTest {
    private static final int RUNS = 500;
    private static final int CALLS = 200;
    private static final int FILMS = 6;

    public static void main(String[] args) {
        for (int run = 0; run < RUNS; run++) {
            Random random = new Random(run);
            Bandwidthclub club = new Bandwidthclub();
            int[] units = startedClub(club, random);
            for (int call = 0; call < CALLS; call++) {
                callByChance(club, random, units.length);
            }
            for (int m = 0; m < units.length; m++) {
                memberHolds("run " + run + ": ", club, m, units);
            }
            Check.is("run " + run + ": fetched, as worth", worthOfAll(club), fetchedByAll(club, units));
        }
        Check.end();
    }

    private static int[] startedClub(Bandwidthclub club, Random random) {
        int[] units = new int[1 + random.nextInt(6)];
        for (int m = 0; m < units.length; m++) {
            units[m] = 1 + random.nextInt(20);
            club.join(units[m], random.nextInt(51));
        }
        for (int f = 0; f < FILMS; f++) {
            club.film(1 + random.nextInt(20));
        }
        return units;
    }

    private static void callByChance(Bandwidthclub club, Random random, int members) {
        int member = random.nextInt(members);
        try {
            switch (random.nextInt(12)) {
                case 0:
                case 1:
                    club.pass(1 + random.nextInt(20));
                    break;
                case 2:
                    club.propose(member, random.nextInt(3), random.nextInt(10));
                    break;
                case 3:
                case 4:
                    club.vote(member, random.nextInt(8), random.nextInt(3) > 0);
                    break;
                case 5:
                    if (random.nextInt(10) == 0) {
                        club.leave(member);
                    }
                    break;
                default:
                    club.fetch(member, random.nextInt(FILMS));
            }
        } catch (IndexOutOfBoundsException | IllegalStateException e) {
            if (e instanceof ArrayIndexOutOfBoundsException || !Check.isThrownByTheClub(e)) {
                Check.fail("the machine or its library threw " + e);
            }
        }
    }

    private static void memberHolds(String run, Bandwidthclub club, int m, int[] units) {
        String of = run + "member " + m;
        Check.is(of + ": account anew", club.accountAnew(m), club.member(m, 3));
        int left = club.member(m, 1);
        Check.is(of + ": line left is of the line", left >= 0 && left <= units[m], true);
        for (int o = 0; o < units.length; o++) {
            int owes = club.owes(m, o);
            Check.is(of + ": owes anew " + o, club.owesAnew(m, o), owes);
            Check.is(of + " and " + o + ": one owes", owes == 0 || club.owes(o, m) == 0, true);
        }
    }

    private static int worthOfAll(Bandwidthclub club) {
        int sum = 0;
        for (int f = 0; f < FILMS; f++) {
            sum += club.worth(f);
        }
        return sum;
    }

    private static int fetchedByAll(Bandwidthclub club, int[] units) {
        int sum = 0;
        for (int m = 0; m < units.length; m++) {
            sum += club.member(m, 4);
        }
        return sum;
    }
}
