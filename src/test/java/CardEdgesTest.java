/** The edges of "Cards" and of promises 6 to 8, 19 and 20. */
public final class CardEdgesTest {
    public static void main(String[] args) {
        aMatchHasTwoWrestlers();
        minutesOfACardAreAtMost120();
        minutesAreFreeAgain();
        aCardWithAllTen();
        matchesComeDown();
        aWrestlerIsInOneMatch();
        aTitleIsInOneMatch();
        aCardWithoutMatchesIsNone();
        clausesBarUpToTheirLastDay();
        protectionsBarAheadOfTheirDay();
        barsAreLookedAtInBookingAlone();
        whatIsBookedStays();
        theHurtCanNotBeBooked();
        theLastDayOfAnInjury();
        theChampionHasToBeOneOfBoth();
        aPlayedCardIsClosed();
        shootingTodaysAlone();
        whoWonOrIsToWin();
        cardsOfAllDays();
        Check.finish();
    }

    private static void aMatchHasTwoWrestlers() {
        KayfabeRing ring = Stage.ofSize(10, 0);
        for (int wrestler : new int[] {0, 9}) {
            Check.isThrown("6 both the same", Check.ARGUMENT, () -> ring.book(0, 0, wrestler, wrestler, true, 1, -1));
        }
        Check.due("6 nothing was booked", 0, ring.ofCard(0, 1));
        Check.due("6 the first and the last one", 0, ring.book(0, 0, 0, 9, true, 1, -1));
    }

    private static int bookOn(KayfabeRing ring, int day, int pair, int minutes) {
        return ring.book(day, 0, 2 * pair, 2 * pair + 1, true, minutes, -1);
    }

    private static void minutesOfACardAreAtMost120() {
        KayfabeRing two = Stage.ofSize(10, 0);
        bookOn(two, 0, 0, 60);
        Check.due("6 60 and 60", 1, bookOn(two, 0, 1, 60));
        Check.due("19 120", 120, two.ofCard(0, 2));
        Check.isThrown("6 121", Check.STATE, () -> bookOn(two, 0, 2, 1));

        KayfabeRing three = Stage.ofSize(10, 0);
        bookOn(three, 999, 0, 60);
        bookOn(three, 999, 1, 59);
        Check.isThrown("6 121 by a match of 2", Check.STATE, () -> bookOn(three, 999, 2, 2));
        Check.isThrown("6 179", Check.STATE, () -> bookOn(three, 999, 2, 60));
        Check.due("19 still 119", 119, three.ofCard(999, 2));
        Check.due("6 120 by a match of 1", 2, bookOn(three, 999, 2, 1));
        Check.due("19 120 of three", 120, three.ofCard(999, 2));
        Check.due("6 each card has its own", 0, bookOn(three, 998, 3, 60));

        KayfabeRing five = Stage.ofSize(10, 0);
        for (int pair = 0; pair < 4; pair++) {
            bookOn(five, 0, pair, 24);
        }
        Check.isThrown("6 121 of five", Check.STATE, () -> bookOn(five, 0, 4, 25));
        Check.due("6 120 of five", 4, bookOn(five, 0, 4, 24));
    }

    private static void minutesAreFreeAgain() {
        KayfabeRing ring = Stage.ofSize(8, 0);
        bookOn(ring, 0, 0, 60);
        bookOn(ring, 0, 1, 50);
        bookOn(ring, 0, 2, 10);
        ring.strike(0, 2);
        Check.isThrown("6 more than is free", Check.STATE, () -> bookOn(ring, 0, 3, 11));
        Check.due("6 what is free", 2, bookOn(ring, 0, 3, 10));
        ring.strike(0, 2);
        ring.protect(1, 1);
        ring.hurt(0, 1);
        Check.due("11 nobody can win there", 1, ring.mend());
        Check.due("19 the other one's", 50, ring.ofCard(0, 2));
        Check.due("6 as many as are free", 1, bookOn(ring, 0, 2, 60));
        Check.isThrown("6 more than is free", Check.STATE, () -> bookOn(ring, 0, 3, 11));
        Check.due("6 what is free", 2, bookOn(ring, 0, 3, 10));
    }

    private static void aCardWithAllTen() {
        KayfabeRing ring = Stage.ofSize(10, 4);
        for (int pair = 0; pair < 5; pair++) {
            int title = pair < 4 ? pair : Stage.NONE;
            Check.due("6 number", pair, ring.book(0, 3, 2 * pair, 2 * pair + 1, true, 24, title));
        }
        for (int first = 0; first < 10; first++) {
            int one = first;
            int other = 9 - first;
            Check.isThrown("6 all are on it", Check.STATE, () -> ring.book(0, 3, one, other, true, 1, -1));
        }
        Check.due("19 five", 5, ring.ofCard(0, 1));
        Check.isThrown("20 no sixth", Check.INDEX, () -> ring.ofMatch(0, 5, 0));
        Check.due("7 the last of them", 4, ring.strike(0, 4));
        Check.due("6 its number again", 4, ring.book(0, 3, 9, 8, false, 24, -1));
        Check.due("12 all five are played", 500, ring.play());
        for (int wrestler = 0; wrestler < 10; wrestler++) {
            Check.due("12 each won or lost", 1, ring.ofWrestler(wrestler, 4) + ring.ofWrestler(wrestler, 5));
        }
    }

    /** Of four matches each one is struck once; their minutes tell them apart. */
    private static void matchesComeDown() {
        for (int struck = 0; struck < 4; struck++) {
            KayfabeRing ring = Stage.ofSize(10, 0);
            for (int pair = 0; pair < 4; pair++) {
                bookOn(ring, 1, pair, 10 + pair);
            }
            Check.due("7 how many then", 3, ring.strike(1, struck));
            for (int match = 0; match < 3; match++) {
                int was = match < struck ? match : match + 1;
                Check.due("7 minutes", 10 + was, ring.ofMatch(1, match, 3));
                Check.due("7 first", 2 * was, ring.ofMatch(1, match, 0));
                Check.due("7 second", 2 * was + 1, ring.ofMatch(1, match, 1));
            }
            Check.isThrown("7 the last number is free", Check.INDEX, () -> ring.ofMatch(1, 3, 0));
            Check.isThrown("7 the last number is free", Check.INDEX, () -> ring.strike(1, 3));
            Check.due("6 the next one comes behind", 3, bookOn(ring, 1, 4, 20));
            Check.due("20 behind those that came down", 20, ring.ofMatch(1, 3, 3));
        }
    }

    private static void aWrestlerIsInOneMatch() {
        int[][] pairs = {{0, 2}, {2, 0}, {1, 2}, {2, 1}, {0, 1}, {1, 0}};
        KayfabeRing ring = Stage.ofSize(4, 0);
        ring.book(3, 0, 0, 1, true, 1, -1);
        for (int[] pair : pairs) {
            Check.isThrown("6 on it", Check.STATE, () -> ring.book(3, 0, pair[0], pair[1], true, 1, -1));
            Check.due("6 not on the card of another day", 0, ring.book(4, 0, pair[0], pair[1], true, 1, -1));
            ring.strike(4, 0);
        }
        Check.due("6 two others", 1, ring.book(3, 0, 2, 3, true, 1, -1));
        ring.strike(3, 0);
        Check.due("6 off it again", 1, ring.book(3, 0, 1, 0, true, 1, -1));
    }

    private static void aTitleIsInOneMatch() {
        KayfabeRing ring = Stage.ofSize(10, 4);
        ring.book(3, 0, 0, 1, true, 1, 0);
        ring.book(3, 0, 2, 3, true, 1, 3);
        Check.isThrown("6 the first title is on it", Check.STATE, () -> ring.book(3, 0, 4, 5, true, 1, 0));
        Check.isThrown("6 the last title is on it", Check.STATE, () -> ring.book(3, 0, 4, 5, true, 1, 3));
        Check.due("6 another title", 2, ring.book(3, 0, 4, 5, true, 1, 1));
        Check.due("6 none", 3, ring.book(3, 0, 6, 7, true, 1, Stage.NONE));
        Check.due("6 none twice", 4, ring.book(3, 0, 8, 9, true, 1, Stage.NONE));
        Check.due("6 the title on another day's", 0, ring.book(4, 0, 4, 5, true, 1, 0));
        ring.strike(3, 4);
        ring.strike(3, 0);
        Check.due("6 off it again", 3, ring.book(3, 0, 8, 9, true, 1, 0));
    }

    private static void aCardWithoutMatchesIsNone() {
        KayfabeRing ring = Stage.ofSize(4, 0);
        ring.book(0, 0, 0, 1, true, 1, -1);
        for (int town = 1; town <= 3; town++) {
            int other = town;
            Check.isThrown("6 of another town", Check.STATE, () -> ring.book(0, other, 2, 3, true, 1, -1));
        }
        ring.book(0, 0, 2, 3, true, 1, -1);
        ring.strike(0, 0);
        Check.isThrown("6 one is left", Check.STATE, () -> ring.book(0, 3, 0, 1, true, 1, -1));
        ring.strike(0, 0);
        Check.due("19 no town", Stage.NONE, ring.ofCard(0, 0));
        Check.isThrown("12 none is played", Check.STATE, ring::play);
        Check.isThrown("11 none is mended", Check.STATE, ring::mend);
        Check.due("6 any town", 0, ring.book(0, 3, 0, 1, true, 1, -1));
        Check.due("19 that town", 3, ring.ofCard(0, 0));
        ring.hurt(0, 1);
        ring.hurt(2, 1);
        ring.hurt(3, 1);
        Check.due("11 nobody is left", 1, ring.mend());
        Check.due("19 no town", Stage.NONE, ring.ofCard(0, 0));
        Check.isThrown("12 none is played", Check.STATE, ring::play);
        ring.pass();
        Check.due("6 any town the next day", 0, ring.book(1, 1, 0, 1, true, 1, -1));
    }

    /** The last day, a day, and whether a booking of that day is barred. */
    private static void clausesBarUpToTheirLastDay() {
        int[][] days = {{-1, 0, 0}, {-1, 999, 0}, {0, 0, 1}, {0, 1, 0}, {5, 4, 1}, {5, 5, 1}, {5, 6, 0}, {998, 998, 1},
            {998, 999, 0}, {999, 0, 1}, {999, 999, 1}};
        for (int[] d : days) {
            KayfabeRing ring = Stage.ofSize(3, 0);
            ring.clause(0, 1, d[0]);
            String what = "4 up to " + d[0] + ", on " + d[1];
            barred(what, d[2], ring, d[1], new int[] {0, 1, 0});
            barred(what + ", as the second one", d[2], ring, d[1], new int[] {1, 0, 1});
            barred(what + ", to win", 0, ring, d[1], new int[] {0, 1, 1});
            barred(what + ", against another one", 0, ring, d[1], new int[] {0, 2, 0});
            barred(what + ", another one against that one", 0, ring, d[1], new int[] {2, 1, 0});
        }
    }

    /** The first day on which that one can lose, a day, and whether a booking of that day is barred. */
    private static void protectionsBarAheadOfTheirDay() {
        int[][] days = {{0, 0, 0}, {0, 999, 0}, {1, 0, 1}, {1, 1, 0}, {5, 4, 1}, {5, 5, 0}, {999, 0, 1}, {999, 998, 1},
            {999, 999, 0}};
        for (int[] d : days) {
            KayfabeRing ring = Stage.ofSize(3, 0);
            ring.protect(0, d[0]);
            String what = "5 ahead of " + d[0] + ", on " + d[1];
            barred(what, d[2], ring, d[1], new int[] {0, 1, 0});
            barred(what + ", as the second one", d[2], ring, d[1], new int[] {2, 0, 1});
            barred(what + ", to win", 0, ring, d[1], new int[] {0, 1, 1});
            barred(what + ", another one", 0, ring, d[1], new int[] {2, 1, 0});
        }
    }

    /** A booking of the first, the second, whether the first is to win; it is struck again. */
    private static void barred(String what, int isBarred, KayfabeRing ring, int day, int[] match) {
        Check.Call call = () -> ring.book(day, 0, match[0], match[1], match[2] == 1, 1, -1);
        if (isBarred == 1) {
            Check.isThrown(what, Check.STATE, call);
            Check.due(what + ": nothing is booked", 0, ring.ofCard(day, 1));
        } else {
            Check.due(what, 0, call.answer());
            ring.strike(day, 0);
        }
    }

    private static void barsAreLookedAtInBookingAlone() {
        KayfabeRing ring = Stage.ofSize(3, 0);
        Stage.book(ring, 0, 1);
        ring.clause(1, 0, 999);
        ring.protect(1, 999);
        Check.due("12 it is played all the same", 100, ring.play());
        Check.due("12 who is barred loses", 1, ring.beat(0, 1));
    }

    private static void whatIsBookedStays() {
        KayfabeRing ring = Stage.ofSize(6, 1);
        ring.book(3, 2, 0, 1, false, 33, 0);
        ring.clause(0, 1, 999);
        ring.protect(0, 999);
        ring.head(0);
        ring.head(0);
        ring.head(0);
        ring.hurt(1, 200);
        Stage.crown(ring, 4, 5, 0);
        Stage.passTo(ring, 3);
        int[] want = {0, 1, 1, 33, 0, 0};
        for (int what = 0; what < want.length; what++) {
            Check.due("6 what is booked stays, what " + what, want[what], ring.ofMatch(3, 0, what));
        }
        Check.due("19 in its town", 2, ring.ofCard(3, 0));
        ring.pass();
        Check.isThrown("14 till its day is over", Check.INDEX, () -> ring.ofMatch(3, 0, 0));
        Check.due("19 gone", 0, ring.ofCard(3, 1) + ring.ofCard(3, 2) + ring.ofCard(3, 3));
    }

    private static void theHurtCanNotBeBooked() {
        for (int days : new int[] {1, 2, 200}) {
            for (int hurt = 0; hurt <= 1; hurt++) {
                KayfabeRing ring = Stage.ofSize(2, 0);
                ring.pass();
                ring.hurt(hurt, days);
                Check.isThrown("6 hurt now", Check.STATE, () -> ring.book(1, 0, 0, 1, true, 1, -1));
                Check.isThrown("6 the last day hurt", Check.STATE, () -> ring.book(days, 0, 0, 1, true, 1, -1));
                Check.due("6 not hurt then", 0, ring.book(days + 1, 0, 0, 1, true, 1, -1));
            }
        }
    }

    private static void theLastDayOfAnInjury() {
        KayfabeRing ring = Stage.passTo(Stage.ofSize(4, 0), 800);
        Check.due("9 ahead of the last day", 999, ring.hurt(0, 199));
        Check.due("9 over the last day", 1000, ring.hurt(1, 200));
        Check.isThrown("6 hurt", Check.STATE, () -> ring.book(998, 0, 0, 2, true, 1, -1));
        Check.due("6 not hurt on the last day", 0, ring.book(999, 0, 0, 2, true, 1, -1));
        Check.isThrown("6 hurt on the last day", Check.STATE, () -> ring.book(999, 0, 1, 3, true, 1, -1));
        ring.head(3);
        ring.head(3);
        ring.head(3);
        Check.isThrown("6 hurt for good", Check.STATE, () -> ring.book(999, 0, 3, 2, true, 1, -1));
    }

    private static void theChampionHasToBeOneOfBoth() {
        KayfabeRing ring = Stage.ofSize(4, 4);
        Stage.crown(ring, 2, 3, 3);
        Check.isThrown("6 neither", Check.STATE, () -> ring.book(5, 0, 0, 1, true, 1, 3));
        Check.isThrown("6 who lost it is not", Check.STATE, () -> ring.book(5, 0, 3, 1, true, 1, 3));
        Check.due("6 the first", 0, ring.book(5, 0, 2, 1, true, 1, 3));
        Check.due("6 the second", 0, ring.book(6, 0, 0, 2, true, 1, 3));
        Check.due("6 vacant, for any two", 0, ring.book(7, 0, 0, 1, true, 1, 0));
        ring.hurt(2, 61);
        Check.due("6 vacant again, for any two", 0, ring.book(8, 0, 0, 1, true, 1, 3));
    }

    private static void aPlayedCardIsClosed() {
        KayfabeRing ring = Stage.ofSize(4, 0);
        Stage.play(ring, 1, 0, 1, 1, -1);
        Check.isThrown("6 its town", Check.STATE, () -> ring.book(0, 1, 2, 3, true, 1, -1));
        Check.isThrown("6 another town", Check.STATE, () -> ring.book(0, 2, 2, 3, true, 1, -1));
        Check.isThrown("7 played", Check.STATE, () -> ring.strike(0, 0));
        Check.isThrown("8 played", Check.STATE, () -> ring.shoot(0) ? 1 : 0);
        Check.isThrown("11 played", Check.STATE, ring::mend);
        Check.isThrown("12 played", Check.STATE, ring::play);
        Check.isThrown("26 played", Check.STATE, ring::mending);
        Check.isThrown("27 played", Check.STATE, ring::mendingAnew);
        Check.due("19 as it was", 1, ring.ofCard(0, 1));
        ring.pass();
        Check.isThrown("7 played, over", Check.STATE, () -> ring.strike(0, 0));
        Check.isThrown("6 over", Check.ARGUMENT, () -> ring.book(0, 1, 2, 3, true, 1, -1));
        Check.due("6 the next day is open", 0, ring.book(1, 2, 2, 3, true, 1, -1));
    }

    private static void shootingTodaysAlone() {
        KayfabeRing ring = Stage.ofSize(4, 0);
        ring.book(0, 0, 0, 1, true, 1, -1);
        ring.book(1, 0, 0, 1, true, 1, -1);
        ring.book(1, 0, 2, 3, true, 1, -1);
        Check.isThrown("8 tomorrow's second is not today's", Check.INDEX, () -> ring.shoot(1) ? 1 : 0);
        Check.due("8 was not", 0, ring.shoot(0) ? 1 : 0);
        Check.due("8 was", 1, ring.shoot(0) ? 1 : 0);
        Check.due("20 tomorrow's is not", 0, ring.ofMatch(1, 0, 5));
        ring.pass();
        Check.due("8 tomorrow's last", 0, ring.shoot(1) ? 1 : 0);
        Check.due("20 not its first", 0, ring.ofMatch(1, 0, 5));
        Check.due("20 its last", 1, ring.ofMatch(1, 1, 5));
        ring.strike(1, 1);
        ring.book(1, 0, 2, 3, true, 1, -1);
        Check.due("8 what is booked anew was not", 0, ring.shoot(1) ? 1 : 0);
        ring.pass();
        Check.isThrown("8 none today", Check.INDEX, () -> ring.shoot(0) ? 1 : 0);
    }

    private static void whoWonOrIsToWin() {
        for (int isFirst = 0; isFirst <= 1; isFirst++) {
            KayfabeRing ring = Stage.ofSize(10, 0);
            boolean firstWins = isFirst == 1;
            int winner = firstWins ? 9 : 0;
            ring.book(0, 0, 9, 0, firstWins, 1, -1);
            ring.book(0, 0, 8, 1, firstWins, 1, -1);
            Check.due("20 is to win", winner, ring.ofMatch(0, 0, 2));
            ring.shoot(1);
            Check.due("20 real, not yet played", firstWins ? 8 : 1, ring.ofMatch(0, 1, 2));
            ring.play();
            Check.due("20 won", winner, ring.ofMatch(0, 0, 2));
            Check.due("20 real as it was played", Stage.NONE, ring.ofMatch(0, 1, 2));
            ring.pass();
            Check.due("20 won, over", winner, ring.ofMatch(0, 0, 2));
            Check.due("20 real, over", Stage.NONE, ring.ofMatch(0, 1, 2));
        }
    }

    private static void cardsOfAllDays() {
        KayfabeRing ring = Stage.ofSize(2, 0);
        ring.book(0, 3, 0, 1, true, 60, -1);
        ring.book(1, 2, 0, 1, true, 1, -1);
        ring.book(999, 1, 0, 1, true, 60, -1);
        ring.play();
        Stage.passTo(ring, 2);
        card(ring, 0, new int[] {3, 1, 60, 1});
        card(ring, 1, new int[] {Stage.NONE, 0, 0, 0});
        card(ring, 2, new int[] {Stage.NONE, 0, 0, 0});
        card(ring, 998, new int[] {Stage.NONE, 0, 0, 0});
        card(ring, 999, new int[] {1, 1, 60, 0});
        Stage.passTo(ring, 999);
        card(ring, 999, new int[] {1, 1, 60, 0});
        ring.play();
        card(ring, 999, new int[] {1, 1, 60, 1});
        card(ring, 0, new int[] {3, 1, 60, 1});
    }

    private static void card(KayfabeRing ring, int day, int[] want) {
        for (int what = 0; what < want.length; what++) {
            Check.due("19 day " + day + ", what " + what, want[what], ring.ofCard(day, what));
        }
    }
}
