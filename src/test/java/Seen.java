/** Everything that can be asked of a club, in one text. */
final class Seen {
    // Above all that a club can have, so that the tests end with any club.
    private static final int MOST_SIGNS = 500;
    private static final int MOST_NUMBERS = 40;

    private Seen() {
    }

    static String all(Bandwidthclub club) {
        int members = members(club);
        int films = films(club);
        int proposals = proposals(club);
        StringBuilder text = new StringBuilder();
        text.append("hour ").append(club.hour());
        for (int r = 0; r < 3; r++) {
            text.append(" rule ").append(club.rule(r));
        }
        for (int m = 0; m < members; m++) {
            text.append("\nmember ").append(m).append(':');
            for (int what = 0; what <= 4; what++) {
                text.append(' ').append(club.member(m, what));
            }
            text.append(" anew ").append(club.accountAnew(m)).append(" owes");
            for (int o = 0; o < members; o++) {
                text.append(' ').append(club.owes(m, o)).append('/').append(club.owesAnew(m, o));
            }
        }
        for (int f = 0; f < films; f++) {
            text.append("\nfilm ").append(f).append(": ").append(club.worth(f));
            for (int m = 0; m < members; m++) {
                text.append(club.has(m, f) ? '+' : '-');
            }
        }
        for (int p = 0; p < proposals; p++) {
            text.append("\nproposal ").append(p).append(':');
            for (int what = 0; what <= 4; what++) {
                text.append(' ').append(club.proposal(p, what));
            }
        }
        return text.append("\ntold ").append(told(club)).toString();
    }

    static String told(Bandwidthclub club) {
        StringBuilder text = new StringBuilder();
        for (char sign = club.told(0); sign != 0 && text.length() < MOST_SIGNS;
                sign = club.told(text.length())) {
            text.append(sign);
        }
        return text.toString();
    }

    static int members(Bandwidthclub club) {
        return count(m -> club.member(m, 0));
    }

    static int films(Bandwidthclub club) {
        return count(f -> club.worth(f));
    }

    static int proposals(Bandwidthclub club) {
        return count(p -> club.proposal(p, 0));
    }

    private interface Asked {
        int of(int number);
    }

    private static int count(Asked asked) {
        for (int count = 0; count < MOST_NUMBERS; count++) {
            try {
                asked.of(count);
            } catch (IndexOutOfBoundsException e) {
                return count;
            }
        }
        return MOST_NUMBERS;
    }
}
