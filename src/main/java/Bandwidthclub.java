import java.util.ArrayList;

/**
 * A club of shared lines: its members fetch films over their own lines and those of others, keep
 * what is worth most in caches, vote on the prices, and can have every account found once more.
 */
public final class Bandwidthclub {
    public static final int OPEN = 0, PASSED = 1, REFUSED = 2;

    private static final int MOST_MEMBERS = 10;
    private static final int MOST_UNITS = 20;
    private static final int MOST_ROOM = 50;
    private static final int MOST_FILMS = 20;
    private static final int MOST_SIZE = 20;
    private static final int MOST_FETCHES = 300;
    private static final int MOST_PROPOSALS = 30;
    private static final int MOST_VALUE = 9;
    private static final int MOST_HOURS_AT_ONCE = 100;
    private static final int LAST_HOUR = 2000;
    private static final int HOURS_OF_DAY = 24;
    private static final int EVENING_BEGINS = 18;
    private static final int EVENING_ENDS = 22;
    private static final int LAST_WHAT = 4;

    private static final int EVENING_PRICE = 0;
    private static final int OTHER_PRICE = 1;
    private static final int REBATE = 2;
    private static final int[] FIRST_VALUES = {4, 2, 1};

    private static final int NOBODY = -1;
    private static final int NO_FILM = -1;
    private static final int ANY_FILM = -1;

    private static final int NO_VOTE = 0;
    private static final int FOR = 1;
    private static final int AGAINST = 2;

    private final ArrayList<Member> members = new ArrayList<Member>();
    private final ArrayList<Film> films = new ArrayList<Film>();
    private final ArrayList<Proposal> proposals = new ArrayList<Proposal>();
    private final ArrayList<Entry> log = new ArrayList<Entry>();
    private int now = 0;
    private int fetches = 0;

    /** Makes a club without members and films, in the hour 0. */
    public Bandwidthclub() {
    }

    // ---- members, films

    /** A member joins; returns its number. */
    public int join(int units, int room) throws IllegalArgumentException, IllegalStateException {
        if (units < 1 || units > MOST_UNITS) {
            throw new IllegalArgumentException("units are out of range");
        }
        if (room < 0 || room > MOST_ROOM) {
            throw new IllegalArgumentException("room is out of range");
        }
        if (members.size() >= MOST_MEMBERS) {
            throw new IllegalStateException("there were 10 members");
        }
        int number = members.size();
        members.add(new Member(number, units, room));
        return number;
    }

    /** A member leaves; returns its account then. */
    public int leave(int member) throws IndexOutOfBoundsException, IllegalStateException {
        Member leaver = memberInClub(member);
        leaver.goAway();
        keepInLog(new Entry(Way.LEFT, now, member, 0));
        int inClub = countInClub();
        for (int p = 0; p < proposals.size(); p++) {
            Proposal proposal = proposals.get(p);
            if (proposal.state == OPEN) {
                proposal.setVote(member, NO_VOTE);
                proposal.decide(inClub, now);
            }
        }
        return leaver.book.account;
    }

    /** Tells a film; returns its number. */
    public int film(int size) throws IllegalArgumentException, IllegalStateException {
        if (size < 1 || size > MOST_SIZE) {
            throw new IllegalArgumentException("size is out of range");
        }
        if (films.size() >= MOST_FILMS) {
            throw new IllegalStateException("there are 20 films");
        }
        films.add(new Film(size));
        return films.size() - 1;
    }

    /** A member fetches a film; returns what it pays. */
    public int fetch(int member, int film) throws IndexOutOfBoundsException, IllegalStateException {
        Film wanted = filmAt(film);
        Member fetcher = memberInClub(member);
        if (fetches >= MOST_FETCHES) {
            throw new IllegalStateException("300 films were fetched");
        }
        Entry entry = planFetch(fetcher, film, wanted.size);
        useLines(entry.lines);
        keepInLog(entry);
        fetches++;
        fetcher.fetches++;
        wanted.worth++;
        if (entry.way == Way.OUTSIDE) {
            putIntoCache(fetcher, film, wanted);
        }
        return costOf(entry);
    }

    /** Lets hours pass; returns the hour then. */
    public int pass(int hours) throws IllegalArgumentException, IllegalStateException {
        if (hours < 1 || hours > MOST_HOURS_AT_ONCE) {
            throw new IllegalArgumentException("hours are out of range");
        }
        if (now + hours > LAST_HOUR) {
            throw new IllegalStateException("the hour would be above 2000");
        }
        now += hours;
        for (int m = 0; m < members.size(); m++) {
            members.get(m).makeLineWhole();
        }
        return now;
    }

    // ---- rules

    /** A member proposes a value for a rule; returns the number of the proposal. */
    public int propose(int member, int rule, int value)
            throws IndexOutOfBoundsException, IllegalArgumentException, IllegalStateException {
        memberAt(member);
        checkRule(rule);
        if (value < 0 || value > MOST_VALUE) {
            throw new IllegalArgumentException("value is out of range");
        }
        memberInClub(member);
        if (proposals.size() >= MOST_PROPOSALS) {
            throw new IllegalStateException("there are 30 proposals");
        }
        proposals.add(new Proposal(rule, value));
        return proposals.size() - 1;
    }

    /** A member votes for a proposal or against it; returns how the proposal is then. */
    public int vote(int member, int proposal, boolean isFor)
            throws IndexOutOfBoundsException, IllegalStateException {
        Proposal voted = proposalAt(proposal);
        memberInClub(member);
        if (voted.state != OPEN) {
            throw new IllegalStateException("the proposal is decided");
        }
        voted.setVote(member, isFor ? FOR : AGAINST);
        voted.decide(countInClub(), now);
        return voted.state;
    }

    /** Returns the value of a rule in this hour. */
    public int rule(int rule) throws IndexOutOfBoundsException {
        checkRule(rule);
        return valueIn(rule, now);
    }

    /** Tells of a proposal: 0 how it is, 1 its rule, 2 its value, 3 votes for it, 4 against it. */
    public int proposal(int proposal, int what)
            throws IndexOutOfBoundsException, IllegalArgumentException {
        Proposal told = proposalAt(proposal);
        checkWhat(what);
        switch (what) {
            case 0:
                return told.state;
            case 1:
                return told.rule;
            case 2:
                return told.value;
            case 3:
                return told.countVotes(FOR);
            default:
                return told.countVotes(AGAINST);
        }
    }

    // ---- what is asked

    /** Returns the hour. */
    public int hour() {
        return now;
    }

    /** Tells of a member: 0 if in the club, 1 line left, 2 cache used, 3 account, 4 fetches. */
    public int member(int member, int what)
            throws IndexOutOfBoundsException, IllegalArgumentException {
        Member told = memberAt(member);
        checkWhat(what);
        switch (what) {
            case 0:
                return told.isInClub ? 1 : 0;
            case 1:
                return told.left;
            case 2:
                return cachedUnits(told, 0);
            case 3:
                return told.book.account;
            default:
                return told.fetches;
        }
    }

    /** Tells whether a member has a film in its cache. */
    public boolean has(int member, int film) throws IndexOutOfBoundsException {
        Member asked = memberAt(member);
        filmAt(film);
        return asked.holds(film);
    }

    /** Returns how many units a member owes another one. */
    public int owes(int member, int other) throws IndexOutOfBoundsException {
        Member asked = memberAt(member);
        memberAt(other);
        return Math.max(asked.book.balanceWith(other), 0);
    }

    /** Returns what a film is worth. */
    public int worth(int film) throws IndexOutOfBoundsException {
        return filmAt(film).worth;
    }

    /** Returns the account of a member, found from the log. */
    public int accountAnew(int member) throws IndexOutOfBoundsException {
        memberAt(member);
        return bookAnew(member).account;
    }

    /** Returns how many units a member owes another one, found from the log. */
    public int owesAnew(int member, int other) throws IndexOutOfBoundsException {
        memberAt(member);
        memberAt(other);
        return Math.max(bookAnew(member).balanceWith(other), 0);
    }

    /** Returns a sign of what the club tells of itself; 0 behind the last one. */
    public char told(int at) throws IndexOutOfBoundsException {
        if (at < 0) {
            throw new IndexOutOfBoundsException("at is below 0");
        }
        StringBuilder text = new StringBuilder();
        for (int m = 0; m < members.size() && text.length() <= at; m++) {
            if (members.get(m).isInClub) {
                tellMember(members.get(m), text);
            }
        }
        return at < text.length() ? text.charAt(at) : (char) 0;
    }

    // ---- what arguments are tested by

    private Member memberAt(int member) {
        if (member < 0 || member >= members.size()) {
            throw new IndexOutOfBoundsException("no such member");
        }
        return members.get(member);
    }

    private Member memberInClub(int member) {
        Member found = memberAt(member);
        if (!found.isInClub) {
            throw new IllegalStateException("the member is not in the club");
        }
        return found;
    }

    private Film filmAt(int film) {
        if (film < 0 || film >= films.size()) {
            throw new IndexOutOfBoundsException("no such film");
        }
        return films.get(film);
    }

    private Proposal proposalAt(int proposal) {
        if (proposal < 0 || proposal >= proposals.size()) {
            throw new IndexOutOfBoundsException("no such proposal");
        }
        return proposals.get(proposal);
    }

    private void checkRule(int rule) {
        if (rule < 0 || rule >= FIRST_VALUES.length) {
            throw new IndexOutOfBoundsException("no such rule");
        }
    }

    private void checkWhat(int what) {
        if (what < 0 || what > LAST_WHAT) {
            throw new IllegalArgumentException("what is out of range");
        }
    }

    // ---- how a film is fetched

    /** Finds the way of a film to a member, and whose lines it takes; changes nothing yet. */
    private Entry planFetch(Member fetcher, int film, int size) {
        if (fetcher.holds(film)) {
            return new Entry(Way.OWN_CACHE, now, fetcher.number, size);
        }
        Entry cached = new Entry(Way.OTHER_CACHE, now, fetcher.number, size);
        int holder = withMostLeft(film, cached.lines);
        if (holder != NOBODY && leftBeside(holder, cached.lines) >= size) {
            cached.holder = holder;
            cached.addLine(holder, size);
            return cached;
        }
        if (leftOfAll() < size) {
            throw new IllegalStateException("the lines have not so much left");
        }
        return planFromOutside(fetcher, size);
    }

    private Entry planFromOutside(Member fetcher, int size) {
        Entry entry = new Entry(Way.OUTSIDE, now, fetcher.number, size);
        int ownUnits = Math.min(size, fetcher.left);
        entry.addLine(fetcher.number, ownUnits);
        int missing = size - ownUnits;
        // A line that was chosen is used up or enough, so that none is chosen a second time.
        for (int round = 0; round < MOST_MEMBERS && missing > 0; round++) {
            int lender = withMostLeft(ANY_FILM, entry.lines);
            int lent = Math.min(missing, leftBeside(lender, entry.lines));
            entry.addLine(lender, lent);
            missing -= lent;
        }
        return entry;
    }

    /** Returns who has most left beside the units planned, of those who hold the film. */
    private int withMostLeft(int film, int[] planned) {
        int found = NOBODY;
        int most = 0;
        for (int m = 0; m < members.size(); m++) {
            int left = leftBeside(m, planned);
            if (left > most && (film == ANY_FILM || members.get(m).holds(film))) {
                found = m;
                most = left;
            }
        }
        return found;
    }

    private int leftBeside(int member, int[] planned) {
        if (member < 0 || member >= members.size() || member >= planned.length) {
            return 0;
        }
        return members.get(member).left - planned[member];
    }

    private int leftOfAll() {
        int sum = 0;
        for (int m = 0; m < members.size(); m++) {
            sum += members.get(m).left;
        }
        return sum;
    }

    private void useLines(int[] lines) {
        for (int m = 0; m < members.size() && m < lines.length; m++) {
            members.get(m).left -= lines[m];
        }
    }

    // ---- caches

    private void putIntoCache(Member member, int film, Film wanted) {
        int most = member.room - wanted.size;
        if (cachedUnits(member, wanted.worth) > most) {
            return;
        }
        for (int out = 0; out < MOST_FILMS && cachedUnits(member, 0) > most; out++) {
            member.setHeld(leastWorthOf(member), false);
        }
        member.setHeld(film, true);
    }

    /** Returns the units in a cache of films that are worth so much or more. */
    private int cachedUnits(Member member, int worth) {
        int sum = 0;
        for (int f = 0; f < films.size(); f++) {
            if (member.holds(f) && films.get(f).worth >= worth) {
                sum += films.get(f).size;
            }
        }
        return sum;
    }

    private int leastWorthOf(Member member) {
        int found = NO_FILM;
        int least = 0;
        for (int f = 0; f < films.size(); f++) {
            if (member.holds(f) && (found == NO_FILM || films.get(f).worth < least)) {
                found = f;
                least = films.get(f).worth;
            }
        }
        return found;
    }

    // ---- rules and votes

    private int countInClub() {
        int count = 0;
        for (int m = 0; m < members.size(); m++) {
            if (members.get(m).isInClub) {
                count++;
            }
        }
        return count;
    }

    private int valueIn(int rule, int hour) {
        if (rule < 0 || rule >= FIRST_VALUES.length) {
            return 0;
        }
        int value = FIRST_VALUES[rule];
        int latest = 0;
        for (int p = 0; p < proposals.size(); p++) {
            Proposal proposal = proposals.get(p);
            if (proposal.rule == rule && proposal.isInForce(hour)
                    && proposal.forceHour >= latest) {
                value = proposal.value;
                latest = proposal.forceHour;
            }
        }
        return value;
    }

    // ---- the log, and accounts from it

    private void keepInLog(Entry entry) {
        log.add(entry);
        for (int m = 0; m < members.size(); m++) {
            enter(entry, members.get(m).book);
        }
    }

    private Book bookAnew(int member) {
        Book book = new Book(member);
        for (int e = 0; e < log.size(); e++) {
            enter(log.get(e), book);
        }
        return book;
    }

    private void enter(Entry entry, Book book) {
        if (book.owner == entry.who) {
            book.account -= costOf(entry);
        } else if (book.owner == entry.holder) {
            book.account += costOf(entry);
        }
        if (entry.way == Way.OUTSIDE) {
            book.enterLoans(entry);
        } else if (entry.way == Way.LEFT) {
            book.settle(entry.who);
        }
    }

    /** Returns what was paid by the rules that were in force in the hour of the entry. */
    private int costOf(Entry entry) {
        if (entry.way == Way.OTHER_CACHE) {
            return entry.units * valueIn(REBATE, entry.hour);
        }
        if (entry.way == Way.OUTSIDE) {
            int price = isEvening(entry.hour) ? EVENING_PRICE : OTHER_PRICE;
            return entry.units * valueIn(price, entry.hour);
        }
        return 0;
    }

    private static boolean isEvening(int hour) {
        int ofDay = hour % HOURS_OF_DAY;
        return ofDay >= EVENING_BEGINS && ofDay <= EVENING_ENDS;
    }

    // ---- what the club tells of itself

    private void tellMember(Member member, StringBuilder text) {
        tellNumber(member.number, text);
        for (int f = 0; f < films.size(); f++) {
            if (member.holds(f)) {
                text.append(',');
                tellNumber(films.get(f).size, text);
            }
        }
        text.append(';');
    }

    /** Tells a number of at most two digits; by single signs, which makes no texts between. */
    private static void tellNumber(int number, StringBuilder text) {
        if (number >= 10) {
            text.append((char) ('0' + number / 10));
        }
        text.append((char) ('0' + number % 10));
    }

    private enum Way { OWN_CACHE, OTHER_CACHE, OUTSIDE, LEFT }

    private static final class Film {
        final int size;
        int worth = 0;

        Film(int size) {
            this.size = size;
        }
    }

    private static final class Member {
        final int number;
        final int units;
        final int room;
        final Book book;
        final boolean[] held = new boolean[MOST_FILMS];
        boolean isInClub = true;
        int left;
        int fetches = 0;

        Member(int number, int units, int room) {
            this.number = number;
            this.units = units;
            this.room = room;
            this.left = units;
            this.book = new Book(number);
        }

        boolean holds(int film) {
            return film >= 0 && film < held.length && held[film];
        }

        void setHeld(int film, boolean isHeld) {
            if (film >= 0 && film < held.length) {
                held[film] = isHeld;
            }
        }

        void makeLineWhole() {
            if (isInClub) {
                left = units;
            }
        }

        /** Leaves no line and no cache behind, so that nobody else need ask who is in the club. */
        void goAway() {
            isInClub = false;
            left = 0;
            for (int f = 0; f < held.length; f++) {
                held[f] = false;
            }
        }
    }

    private static final class Proposal {
        final int rule;
        final int value;
        final int[] votes = new int[MOST_MEMBERS];
        int state = OPEN;
        int forceHour = 0;

        Proposal(int rule, int value) {
            this.rule = rule;
            this.value = value;
        }

        void setVote(int member, int vote) {
            if (member >= 0 && member < votes.length) {
                votes[member] = vote;
            }
        }

        int countVotes(int vote) {
            int count = 0;
            for (int m = 0; m < votes.length; m++) {
                if (votes[m] == vote) {
                    count++;
                }
            }
            return count;
        }

        void decide(int inClub, int hour) {
            if (2 * countVotes(FOR) > inClub) {
                state = PASSED;
                forceHour = hour + 1;
            } else if (inClub > 0 && 2 * countVotes(AGAINST) >= inClub) {
                state = REFUSED;
            }
        }

        boolean isInForce(int hour) {
            return state == PASSED && forceHour <= hour;
        }
    }

    /** What the log keeps of one fetch, or of one member that left. */
    private static final class Entry {
        final Way way;
        final int hour;
        final int who;
        final int units;
        final int[] lines = new int[MOST_MEMBERS];
        int holder = NOBODY;

        Entry(Way way, int hour, int who, int units) {
            this.way = way;
            this.hour = hour;
            this.who = who;
            this.units = units;
        }

        void addLine(int member, int lent) {
            if (member >= 0 && member < lines.length) {
                lines[member] += lent;
            }
        }

        int unitsOver(int member) {
            return member >= 0 && member < lines.length ? lines[member] : 0;
        }
    }

    /** The account of one member, and what it owes each other one (below 0: is owed by it). */
    private static final class Book {
        final int owner;
        final int[] balances = new int[MOST_MEMBERS];
        int account = 0;

        Book(int owner) {
            this.owner = owner;
        }

        int balanceWith(int other) {
            return other >= 0 && other < balances.length ? balances[other] : 0;
        }

        void enterLoans(Entry entry) {
            if (owner != entry.who) {
                changeBalance(entry.who, -entry.unitsOver(owner));
                return;
            }
            for (int m = 0; m < balances.length; m++) {
                if (m != owner) {
                    changeBalance(m, entry.unitsOver(m));
                }
            }
        }

        void changeBalance(int other, int units) {
            if (other >= 0 && other < balances.length) {
                balances[other] += units;
            }
        }

        void settle(int leaver) {
            for (int m = 0; m < balances.length; m++) {
                if (m == leaver || owner == leaver) {
                    account -= balances[m];
                    balances[m] = 0;
                }
            }
        }
    }
}
