import java.util.Arrays;

/**
 * Fights whose ends are told ahead: a roster, cards of days in towns, titles, injuries and records.
 *
 * Every row that lives as long as the ring (wrestlers, titles, the rows of a card) is made once and used
 * again, so that no run of calls makes more than a few thousand objects.
 */
public final class KayfabeRing {
    public static final int NONE = -1;
    public static final int FOREVER = 10000;
    public static final int FACE = 0, HEEL = 1;

    private static final int LAST_DAY = 999;
    private static final int TOWNS = 4;
    private static final int MOST_WRESTLERS = 10;
    private static final int MOST_TITLES = 4;
    private static final int MOST_TALENT = 99;
    private static final int MOST_LOVE = 99;
    private static final int TURNING_LOVE = 50;
    private static final int TURNING_TOWNS = 2;
    private static final int MOST_MATCHES = 6;
    private static final int MOST_SEATS = 2 * MOST_MATCHES;
    private static final int MOST_MINUTES = 60;
    private static final int MOST_CARD_MINUTES = 120;
    private static final int MOST_HURT_DAYS = 200;
    private static final int MOST_CHAMPION_HURT_DAYS = 60;
    private static final int FIRST_HEAD_DAYS = 30;
    private static final int SECOND_HEAD_DAYS = 60;
    private static final int MOST_OPEN = 4;
    private static final int MOST_SLIPS = 9;
    private static final int DAILY_REST = 10;
    private static final int MOST_CALLS = 512;
    private static final int MOST_WAYS = 1000000;

    private final Wrestler[] roster = new Wrestler[MOST_WRESTLERS];
    private final Title[] titles = new Title[MOST_TITLES];
    private final Card[] cards = new Card[LAST_DAY + 1];
    private final Card noCard = new Card();
    private final int[] gates = new int[TOWNS];
    private final Mender mender = new Mender();
    private int rosterSize;
    private int titleCount;
    private int today;

    public KayfabeRing() {
        for (int i = 0; i < MOST_WRESTLERS; i++) {
            roster[i] = new Wrestler();
        }
        for (int i = 0; i < MOST_TITLES; i++) {
            titles[i] = new Title();
        }
    }

    // ---- the roster

    public int wrestler(int skill, int mic, int role) throws IllegalArgumentException, IllegalStateException {
        if (!isWithin(skill, 0, MOST_TALENT) || !isWithin(mic, 0, MOST_TALENT) || !isWithin(role, FACE, HEEL)) {
            throw new IllegalArgumentException("skill, mic or role is out of range");
        }
        if (rosterSize >= MOST_WRESTLERS) {
            throw new IllegalStateException("the roster is full");
        }
        Wrestler added = roster[rosterSize];
        added.skill = skill;
        added.mic = mic;
        added.role = role;
        rosterSize++;
        return rosterSize - 1;
    }

    public int title() throws IllegalStateException {
        if (titleCount >= MOST_TITLES) {
            throw new IllegalStateException("there are all titles");
        }
        titleCount++;
        return titleCount - 1;
    }

    public int clause(int wrestler, int other, int until) throws IndexOutOfBoundsException, IllegalArgumentException {
        if (!isWrestler(wrestler) || !isWrestler(other)) {
            throw new IndexOutOfBoundsException("no such wrestler");
        }
        if (wrestler == other || !isWithin(until, NONE, LAST_DAY)) {
            throw new IllegalArgumentException("both are the same, or until is out of range");
        }
        int[] lastDays = roster[wrestler].clauseDays;
        int before = lastDays[other];
        lastDays[other] = until;
        return before;
    }

    public int protect(int wrestler, int day) throws IndexOutOfBoundsException, IllegalArgumentException {
        if (!isWrestler(wrestler)) {
            throw new IndexOutOfBoundsException("no such wrestler");
        }
        if (!isWithin(day, 0, LAST_DAY)) {
            throw new IllegalArgumentException("day is out of range");
        }
        int before = roster[wrestler].protectedBefore;
        roster[wrestler].protectedBefore = day;
        return before;
    }

    // ---- cards

    public int book(int day, int town, int first, int second, boolean isFirst, int minutes, int title)
            throws IndexOutOfBoundsException, IllegalArgumentException, IllegalStateException {
        if (!isTown(town) || !isWrestler(first) || !isWrestler(second) || (title != NONE && !isTitle(title))) {
            throw new IndexOutOfBoundsException("no such town, wrestler or title");
        }
        if (!isWithin(day, today, LAST_DAY) || !isWithin(minutes, 1, MOST_MINUTES) || first == second) {
            throw new IllegalArgumentException("day or minutes is out of range, or both are the same");
        }
        Card card = cardOf(day);
        if (!card.hasRoom(town, minutes) || card.hasWrestler(first) || card.hasWrestler(second)
                || card.hasTitle(title)) {
            throw new IllegalStateException("the card can't take this match");
        }
        int winner = isFirst ? first : second;
        int loser = isFirst ? second : first;
        if (roster[first].isHurtOn(day) || roster[second].isHurtOn(day) || !isAtStake(title, first, second)
                || roster[loser].isBarredFromLosing(winner, day)) {
            throw new IllegalStateException("one is hurt or barred, or the champion is neither");
        }
        Card booked = cardToBook(day);
        booked.town = town;
        booked.size++;
        booked.matches[booked.size - 1].become(first, second, isFirst, minutes, title);
        return booked.size - 1;
    }

    public int strike(int day, int match) throws IndexOutOfBoundsException, IllegalStateException {
        Card card = cardOf(day);
        if (!card.hasMatch(match)) {
            throw new IndexOutOfBoundsException("no such match");
        }
        if (card.isPlayed) {
            throw new IllegalStateException("the card is played");
        }
        card.remove(match);
        return card.size;
    }

    public boolean shoot(int match) throws IndexOutOfBoundsException, IllegalStateException {
        Card card = cardOf(today);
        if (!card.hasMatch(match)) {
            throw new IndexOutOfBoundsException("no such match");
        }
        if (card.isPlayed) {
            throw new IllegalStateException("the card is played");
        }
        boolean before = card.matches[match].isReal;
        card.matches[match].isReal = true;
        return before;
    }

    // ---- days

    public int hurt(int wrestler, int days) throws IndexOutOfBoundsException, IllegalArgumentException {
        if (!isWrestler(wrestler)) {
            throw new IndexOutOfBoundsException("no such wrestler");
        }
        if (!isWithin(days, 1, MOST_HURT_DAYS)) {
            throw new IllegalArgumentException("days is out of range");
        }
        return injure(wrestler, today + days);
    }

    public int head(int wrestler) throws IndexOutOfBoundsException {
        if (!isWrestler(wrestler)) {
            throw new IndexOutOfBoundsException("no such wrestler");
        }
        Wrestler one = roster[wrestler];
        one.heads++;
        if (one.heads == 1) {
            return injure(wrestler, today + FIRST_HEAD_DAYS);
        }
        return injure(wrestler, one.heads == 2 ? today + SECOND_HEAD_DAYS : FOREVER);
    }

    public int mend() throws IllegalStateException {
        Mender ways = mendersView();
        ways.findBest();
        return ways.carryOut();
    }

    public int play() throws IllegalStateException {
        Card card = cardOf(today);
        if (card.size == 0 || card.isPlayed || hasHurtOnes(card)) {
            throw new IllegalStateException("there is no card, it is played, or somebody on it is hurt");
        }
        int takings = 0;
        for (int i = 0; i < card.size; i++) {
            takings += playMatch(card.matches[i], card.town);
        }
        card.isPlayed = true;
        return takings;
    }

    public int promo(int town, int wrestler, int slips)
            throws IndexOutOfBoundsException, IllegalArgumentException, IllegalStateException {
        if (!isTown(town) || !isWrestler(wrestler)) {
            throw new IndexOutOfBoundsException("no such town or wrestler");
        }
        if (!isWithin(slips, 0, MOST_SLIPS)) {
            throw new IllegalArgumentException("slips is out of range");
        }
        Wrestler one = roster[wrestler];
        if (one.isHurtOn(today) || one.promoDay == today) {
            throw new IllegalStateException("that one is hurt, or said a promo today");
        }
        one.promoDay = today;
        int change = Math.max(0, one.mic / 10 - slips);
        one.addLove(town, one.role == FACE ? change : -change);
        one.turn();
        return one.loves[town];
    }

    public int pass() throws IllegalStateException {
        if (today >= LAST_DAY) {
            throw new IllegalStateException("it is the last day");
        }
        Card card = cardOf(today);
        if (!card.isPlayed) {
            card.size = 0;
        }
        for (int i = 0; i < rosterSize; i++) {
            roster[i].strain = Math.max(0, roster[i].strain - DAILY_REST);
        }
        today++;
        return today;
    }

    // ---- what there is; nothing from here on changes anything

    public int day() {
        return today;
    }

    public int ofWrestler(int wrestler, int what) throws IndexOutOfBoundsException, IllegalArgumentException {
        if (!isWrestler(wrestler)) {
            throw new IndexOutOfBoundsException("no such wrestler");
        }
        Wrestler one = roster[wrestler];
        switch (what) {
            case 0:
                return one.role;
            case 1:
                return one.strain;
            case 2:
                return one.isHurtOn(today) ? one.hurtBefore : 0;
            case 3:
                return one.heads;
            case 4:
                return one.won;
            case 5:
                return one.lost;
            case 6:
                return one.real;
            default:
                throw new IllegalArgumentException("what is out of range");
        }
    }

    public int love(int town, int wrestler) throws IndexOutOfBoundsException {
        if (!isTown(town) || !isWrestler(wrestler)) {
            throw new IndexOutOfBoundsException("no such town or wrestler");
        }
        return roster[wrestler].loves[town];
    }

    public int worth(int town, int wrestler) throws IndexOutOfBoundsException {
        if (!isTown(town) || !isWrestler(wrestler)) {
            throw new IndexOutOfBoundsException("no such town or wrestler");
        }
        return roster[wrestler].worthIn(town);
    }

    public int ofCard(int day, int what) throws IllegalArgumentException {
        if (!isWithin(day, 0, LAST_DAY)) {
            throw new IllegalArgumentException("day is out of range");
        }
        Card card = cardOf(day);
        switch (what) {
            case 0:
                return card.size == 0 ? NONE : card.town;
            case 1:
                return card.size;
            case 2:
                return card.allMinutes();
            case 3:
                return card.isPlayed ? 1 : 0;
            default:
                throw new IllegalArgumentException("what is out of range");
        }
    }

    public int ofMatch(int day, int match, int what) throws IndexOutOfBoundsException, IllegalArgumentException {
        Card card = cardOf(day);
        if (!card.hasMatch(match)) {
            throw new IndexOutOfBoundsException("no such match");
        }
        Match told = card.matches[match];
        switch (what) {
            case 0:
                return told.first;
            case 1:
                return told.second;
            case 2:
                return card.isPlayed && told.isReal ? NONE : told.winner();
            case 3:
                return told.minutes;
            case 4:
                return told.title;
            case 5:
                return told.isReal ? 1 : 0;
            default:
                throw new IllegalArgumentException("what is out of range");
        }
    }

    public int lineage(int title, int at, boolean isDay) throws IndexOutOfBoundsException {
        if (!isTitle(title) || !isWithin(at, 0, titles[title].length - 1)) {
            throw new IndexOutOfBoundsException("no such title, or not so much in its lineage");
        }
        return isDay ? titles[title].days[at] : titles[title].holders[at];
    }

    public int champion(int title) throws IndexOutOfBoundsException {
        if (!isTitle(title)) {
            throw new IndexOutOfBoundsException("no such title");
        }
        return titles[title].holder;
    }

    public int beat(int wrestler, int other) throws IndexOutOfBoundsException {
        if (!isWrestler(wrestler) || !isWrestler(other)) {
            throw new IndexOutOfBoundsException("no such wrestler");
        }
        return roster[wrestler].wonAgainst[other];
    }

    public int beatAnew(int wrestler, int other) throws IndexOutOfBoundsException {
        if (!isWrestler(wrestler) || !isWrestler(other)) {
            throw new IndexOutOfBoundsException("no such wrestler");
        }
        int wins = 0;
        for (int d = 0; d <= today; d++) {
            Card card = cardOf(d);
            if (card.isPlayed) {
                wins += card.winsOf(wrestler, other);
            }
        }
        return wins;
    }

    public int gate(int town) throws IndexOutOfBoundsException {
        if (!isTown(town)) {
            throw new IndexOutOfBoundsException("no such town");
        }
        return gates[town];
    }

    public int mending() throws IllegalStateException {
        return mendersView().findBest();
    }

    public int mendingAnew() throws IllegalStateException {
        return mendersView().tryAllWays();
    }

    // ---- what the calls share

    private static boolean isWithin(int number, int least, int most) {
        return number >= least && number <= most;
    }

    private boolean isWrestler(int number) {
        return number >= 0 && number < rosterSize;
    }

    private boolean isTitle(int number) {
        return number >= 0 && number < titleCount;
    }

    private static boolean isTown(int number) {
        return number >= 0 && number < TOWNS;
    }

    /** A day without a card, or outside the days, has the one without matches, which is never changed. */
    private Card cardOf(int day) {
        if (!isWithin(day, 0, LAST_DAY) || cards[day] == null) {
            return noCard;
        }
        return cards[day];
    }

    private Card cardToBook(int day) {
        if (cards[day] == null) {
            cards[day] = new Card();
        }
        return cards[day];
    }

    /** Whether the title, or none, can be at stake between both now. */
    private boolean isAtStake(int title, int first, int second) {
        if (title == NONE) {
            return true;
        }
        int holder = titles[title].holder;
        return holder == NONE || holder == first || holder == second;
    }

    private int injure(int wrestler, int before) {
        Wrestler one = roster[wrestler];
        one.hurtBefore = Math.max(one.hurtBefore, before);
        if (one.hurtBefore - today > MOST_CHAMPION_HURT_DAYS) {
            vacateTitlesOf(wrestler);
        }
        return one.hurtBefore;
    }

    private void vacateTitlesOf(int wrestler) {
        for (int i = 0; i < titleCount; i++) {
            if (titles[i].holder == wrestler) {
                titles[i].goTo(NONE, today);
            }
        }
    }

    private boolean hasHurtOnes(Card card) {
        for (int i = 0; i < card.size; i++) {
            Match match = card.matches[i];
            if (roster[match.first].isHurtOn(today) || roster[match.second].isHurtOn(today)) {
                return true;
            }
        }
        return false;
    }

    private int playMatch(Match match, int town) {
        Wrestler first = roster[match.first];
        Wrestler second = roster[match.second];
        int takings = first.worthIn(town) + second.worthIn(town);
        gates[town] += takings;
        if (match.isReal) {
            first.real++;
            second.real++;
        } else {
            decide(match.winner(), match.loser(), town);
        }
        first.strain += match.minutes;
        second.strain += match.minutes;
        if (!match.isReal) {
            handOver(match);
        }
        first.turn();
        second.turn();
        return takings;
    }

    private void decide(int winner, int loser, int town) {
        Wrestler one = roster[winner];
        Wrestler other = roster[loser];
        one.won++;
        other.lost++;
        one.wonAgainst[loser]++;
        if (one.role == other.role) {
            one.addLove(town, 3);
            other.addLove(town, -1);
        } else {
            one.addLove(town, one.role == FACE ? 6 : -6);
            other.addLove(town, other.role == FACE ? 2 : -2);
        }
    }

    private void handOver(Match match) {
        if (match.title == NONE || !isAtStake(match.title, match.first, match.second)) {
            return;
        }
        Title title = titles[match.title];
        if (title.holder != match.winner()) {
            title.goTo(match.winner(), today);
        }
    }

    /** The mender with today's card before it. */
    private Mender mendersView() throws IllegalStateException {
        Card card = cardOf(today);
        if (card.size == 0 || card.isPlayed) {
            throw new IllegalStateException("there is no card, or it is played");
        }
        mender.lookAt(card, today, roster, rosterSize);
        if (mender.openCount > MOST_OPEN) {
            throw new IllegalStateException("too many places are open");
        }
        return mender;
    }

    private static final class Wrestler {
        final int[] loves = new int[TOWNS];
        final int[] clauseDays = new int[MOST_WRESTLERS];
        final int[] wonAgainst = new int[MOST_WRESTLERS];
        int skill;
        int mic;
        int role;
        int strain;
        int hurtBefore;
        int heads;
        int won;
        int lost;
        int real;
        int protectedBefore;
        int promoDay = NONE;

        Wrestler() {
            Arrays.fill(clauseDays, NONE);
        }

        boolean isHurtOn(int day) {
            return day < hurtBefore;
        }

        boolean isBarredFromLosing(int winner, int day) {
            return day <= clauseDays[winner] || day < protectedBefore;
        }

        int worthIn(int town) {
            return Math.max(1, skill + Math.abs(loves[town]) - strain / 10);
        }

        void addLove(int town, int change) {
            loves[town] = Math.max(-MOST_LOVE, Math.min(MOST_LOVE, loves[town] + change));
        }

        /** Once at most: love and hate in two towns each would turn one back at once. */
        void turn() {
            int loving = 0;
            int hating = 0;
            for (int town = 0; town < TOWNS; town++) {
                if (loves[town] >= TURNING_LOVE) {
                    loving++;
                }
                if (loves[town] <= -TURNING_LOVE) {
                    hating++;
                }
            }
            if (role == HEEL && loving >= TURNING_TOWNS) {
                role = FACE;
            } else if (role == FACE && hating >= TURNING_TOWNS) {
                role = HEEL;
            }
        }
    }

    private static final class Title {
        // A call makes a lineage longer by one at most, and all calls that count are MOST_CALLS.
        final int[] holders = new int[MOST_CALLS];
        final int[] days = new int[MOST_CALLS];
        int length;
        int holder = NONE;

        void goTo(int newHolder, int day) {
            holder = newHolder;
            if (length < MOST_CALLS) {
                holders[length] = newHolder;
                days[length] = day;
                length++;
            }
        }
    }

    private static final class Match {
        int first;
        int second;
        boolean firstWins;
        int minutes;
        int title;
        boolean isReal;

        void become(int newFirst, int newSecond, boolean isFirst, int newMinutes, int newTitle) {
            first = newFirst;
            second = newSecond;
            firstWins = isFirst;
            minutes = newMinutes;
            title = newTitle;
            isReal = false;
        }

        int winner() {
            return firstWins ? first : second;
        }

        int loser() {
            return firstWins ? second : first;
        }
    }

    private static final class Card {
        final Match[] matches = new Match[MOST_MATCHES];
        int town;
        int size;
        boolean isPlayed;

        Card() {
            for (int i = 0; i < MOST_MATCHES; i++) {
                matches[i] = new Match();
            }
        }

        boolean hasMatch(int number) {
            return number >= 0 && number < size;
        }

        boolean hasRoom(int forTown, int minutes) {
            if (isPlayed || size >= MOST_MATCHES || allMinutes() + minutes > MOST_CARD_MINUTES) {
                return false;
            }
            return size == 0 || town == forTown;
        }

        boolean hasWrestler(int wrestler) {
            for (int i = 0; i < size; i++) {
                if (matches[i].first == wrestler || matches[i].second == wrestler) {
                    return true;
                }
            }
            return false;
        }

        boolean hasTitle(int title) {
            for (int i = 0; i < size; i++) {
                if (title != NONE && matches[i].title == title) {
                    return true;
                }
            }
            return false;
        }

        int allMinutes() {
            int sum = 0;
            for (int i = 0; i < size; i++) {
                sum += matches[i].minutes;
            }
            return sum;
        }

        int winsOf(int wrestler, int other) {
            int wins = 0;
            for (int i = 0; i < size; i++) {
                Match match = matches[i];
                if (!match.isReal && match.winner() == wrestler && match.loser() == other) {
                    wins++;
                }
            }
            return wins;
        }

        /** The row of the match that goes comes behind the others, to be used again. */
        void remove(int number) {
            Match gone = matches[number];
            for (int i = number; i < size - 1; i++) {
                matches[i] = matches[i + 1];
            }
            matches[size - 1] = gone;
            size--;
        }
    }

    /**
     * Finds who comes to the open places of a card. A seat is twice the match's number, for its first one, and
     * that and one for its second: so seats go in the order in which ways are compared.
     */
    private static final class Mender {
        private final int[] seats = new int[MOST_SEATS];
        private final boolean[] isOpen = new boolean[MOST_SEATS];
        private final int[] openSeats = new int[MOST_OPEN];
        private final int[] bestComers = new int[MOST_OPEN];
        private final int[] choices = new int[MOST_OPEN];
        private final int[] candidates = new int[MOST_WRESTLERS];
        private final int[] worths = new int[MOST_WRESTLERS];
        private final boolean[] isTaken = new boolean[MOST_WRESTLERS];
        private Wrestler[] roster = new Wrestler[0];
        private Card card = new Card();
        private int day;
        private int openCount;
        private int candidateCount;
        private int bestSum;

        void lookAt(Card newCard, int newDay, Wrestler[] newRoster, int rosterSize) {
            card = newCard;
            day = newDay;
            roster = newRoster;
            openCount = 0;
            for (int i = 0; i < card.size; i++) {
                lookAtSeat(2 * i, card.matches[i].first);
                lookAtSeat(2 * i + 1, card.matches[i].second);
            }
            candidateCount = 0;
            for (int i = 0; i < rosterSize; i++) {
                if (!roster[i].isHurtOn(day) && !card.hasWrestler(i)) {
                    candidates[candidateCount] = i;
                    worths[candidateCount] = roster[i].worthIn(card.town);
                    isTaken[candidateCount] = false;
                    candidateCount++;
                }
            }
        }

        private void lookAtSeat(int seat, int wrestler) {
            isOpen[seat] = roster[wrestler].isHurtOn(day);
            seats[seat] = isOpen[seat] ? NONE : wrestler;
            if (isOpen[seat]) {
                if (openCount < MOST_OPEN) {
                    openSeats[openCount] = seat;
                }
                openCount++;
            }
        }

        int findBest() {
            bestSum = NONE;
            fillFrom(this, 0, 0);
            return bestSum;
        }

        /**
         * Fills the open places from this one on, those who are preferred first, so that of equal sums the
         * first one found is the one to keep. The place is the depth, MOST_OPEN at most.
         */
        private static void fillFrom(Mender of, int place, int sum) {
            if (place >= of.openCount || place >= MOST_OPEN) {
                of.keepIfBetter(sum);
                return;
            }
            int seat = of.openSeats[place];
            boolean isBound = seat % 2 == 1 && of.isOpen[seat - 1];
            boolean isBoundToNobody = isBound && of.seats[seat - 1] == NONE;
            for (int i = 0; i < of.candidateCount && !isBoundToNobody; i++) {
                if (of.isTaken[i]) {
                    continue;
                }
                of.seats[seat] = of.candidates[i];
                if (!of.isBarred(seat / 2)) {
                    of.isTaken[i] = true;
                    fillFrom(of, place + 1, sum + of.worths[i]);
                    of.isTaken[i] = false;
                }
            }
            of.seats[seat] = NONE;
            if (!isBound || isBoundToNobody) {
                fillFrom(of, place + 1, sum);
            }
        }

        private void keepIfBetter(int sum) {
            if (sum <= bestSum) {
                return;
            }
            bestSum = sum;
            for (int i = 0; i < openCount && i < MOST_OPEN; i++) {
                bestComers[i] = seats[openSeats[i]];
            }
        }

        /** Whether a clause or a protection bars the end of this match, once both are there. */
        private boolean isBarred(int match) {
            int first = seats[2 * match];
            int second = seats[2 * match + 1];
            if (first == NONE || second == NONE) {
                return false;
            }
            boolean firstWins = card.matches[match].firstWins;
            Wrestler loser = roster[firstWins ? second : first];
            return loser.isBarredFromLosing(firstWins ? first : second, day);
        }

        /** From the last place on, for a match that is struck moves those behind it. */
        int carryOut() {
            int struck = 0;
            for (int i = Math.min(openCount, MOST_OPEN) - 1; i >= 0; i--) {
                int seat = openSeats[i];
                boolean isFirst = seat % 2 == 0;
                if (bestComers[i] == NONE) {
                    if (isFirst && isOpen[seat + 1]) {
                        continue;
                    }
                    card.remove(seat / 2);
                    struck++;
                } else if (isFirst) {
                    card.matches[seat / 2].first = bestComers[i];
                } else {
                    card.matches[seat / 2].second = bestComers[i];
                }
            }
            return struck;
        }

        /** The greatest sum of all ways, each choice being a candidate or, behind them all, nobody. */
        int tryAllWays() {
            Arrays.fill(choices, 0);
            int greatest = 0;
            boolean isMore = true;
            for (int tried = 0; isMore && tried < MOST_WAYS; tried++) {
                greatest = Math.max(greatest, sumOfWay());
                isMore = goToNextWay();
            }
            return greatest;
        }

        private boolean goToNextWay() {
            for (int i = 0; i < openCount && i < MOST_OPEN; i++) {
                if (choices[i] < candidateCount) {
                    choices[i]++;
                    return true;
                }
                choices[i] = 0;
            }
            return false;
        }

        /** NONE, if the choices are no way to mend the card. */
        private int sumOfWay() {
            int count = Math.min(openCount, MOST_OPEN);
            for (int i = 0; i < count; i++) {
                seats[openSeats[i]] = choices[i] < candidateCount ? candidates[choices[i]] : NONE;
            }
            int sum = 0;
            for (int i = 0; i < count; i++) {
                if (!isAllowed(i)) {
                    return NONE;
                }
                sum += choices[i] < candidateCount ? worths[choices[i]] : 0;
            }
            return sum;
        }

        private boolean isAllowed(int place) {
            int seat = openSeats[place];
            int facing = seat % 2 == 0 ? seat + 1 : seat - 1;
            if (isOpen[facing] && (seats[seat] == NONE) != (seats[facing] == NONE)) {
                return false;
            }
            for (int i = 0; i < place; i++) {
                if (seats[seat] != NONE && choices[i] == choices[place]) {
                    return false;
                }
            }
            return !isBarred(seat / 2);
        }
    }
}
