/** Sentences of the document that no other test asks for by itself; src/test/SENTENCES.md tells which. */
public final class SentencesTest {
    private static final int FACE = KayfabeRing.FACE;
    private static final int HEEL = KayfabeRing.HEEL;

    public static void main(String[] args) {
        ringsAreApart();
        wrestlersOfALaterDay();
        titlesOfALaterDay();
        whoIsWithoutAMatchOfTheDayIsLeftAlone();
        bothTurnInOneMatch();
        bothTurnEachItsOwnWay();
        eachTurnsBehindTheTitle();
        rolesAsTheMatchBegins();
        aChampionComesToItsTitle();
        theTitleOfWhoLeftIsNotAtStake();
        matchesWithoutOpenPlacesAreNotLookedAt();
        whoCameIsOnTheCard();
        whatIsBookedBehindAMendingIsNotReal();
        aRealMatchIsMendedAndPlayed();
        whoCameIsBookedOnLaterDays();
        bookedInAnyTownOfAnyDay();
        aClauseIsOfOneAgainstAnother();
        Check.finish();
    }

    /** Promise 1: what one ring is told, another one does not hear of. */
    private static void ringsAreApart() {
        KayfabeRing one = Stage.ofSize(3, 1);
        KayfabeRing other = Stage.ofSize(3, 1);
        one.book(0, 1, 0, 1, true, 30, 0);
        other.book(0, 2, 2, 1, false, 40, 0);
        one.clause(0, 1, 5);
        one.protect(1, 5);
        Check.due("1 no clause", -1, other.clause(0, 1, 7));
        Check.due("1 no protection", 0, other.protect(1, 8));
        Check.due("4 its own", 5, one.clause(0, 1, -1));
        Check.due("5 its own", 5, one.protect(1, 0));
        one.hurt(2, 9);
        Check.due("12 nobody is hurt there", 100, other.play());
        one.pass();
        Check.due("1 a day is one ring's", 0, other.day());
        Check.due("1 another champion", 1, other.champion(0));
        Check.due("1 vacant", Stage.NONE, one.champion(0));
        Check.due("1 its own gate", 0, one.gate(2));
        Check.due("1 its own love", 0, one.love(2, 1));
        Check.due("1 its own record", 0, one.beatAnew(1, 2));
        one.promo(0, 0, 0);
        Check.due("1 its own promo", 9, other.promo(0, 0, 0));
    }

    /** A wrestler can be added on any day, and is as one of the first day. */
    private static void wrestlersOfALaterDay() {
        KayfabeRing ring = Stage.ofSkills(10, 20);
        Stage.play(ring, 0, 0, 1, 30, Stage.NONE);
        ring.clause(1, 0, 999);
        Stage.passTo(ring, 5);
        Check.due("2 the next number", 2, ring.wrestler(40, 99, FACE));
        Stage.book(ring, 0, 2);
        Check.due("2 no strain", 0, ring.ofWrestler(2, 1));
        Check.due("2 no love", 0, ring.love(0, 2));
        Check.due("2 no clause", -1, ring.clause(2, 0, -1));
        Check.due("2 none against it", -1, ring.clause(0, 2, -1));
        Check.due("2 nothing won yet", 0, ring.beat(2, 0) + ring.beatAnew(2, 0));
        ring.hurt(0, 1);
        Check.due("2 a fourth, as it is mended", 3, ring.wrestler(99, 0, HEEL));
        Mendings.due("who was just added comes", ring, 99, 0, 3, 2);
        Check.due("12 both are new", 99 + 40, ring.play());
        Check.due("23 it counts", 1, ring.beat(3, 2));
    }

    private static void titlesOfALaterDay() {
        KayfabeRing ring = Stage.ofSize(2, 1);
        Stage.crown(ring, 0, 1, 0);
        Check.due("3 a second one", 1, ring.title());
        Check.due("3 vacant", Stage.NONE, ring.champion(1));
        Check.isThrown("3 no lineage", Check.INDEX, () -> ring.lineage(1, 0, false));
        Stage.crown(ring, 1, 0, 1);
        Check.due("21 its own day", 1, ring.lineage(1, 0, true));
        Check.due("22 the first one's champion stays", 0, ring.champion(0));
    }

    /** Playing changes those of the matches alone; a day's rest is for all. */
    private static void whoIsWithoutAMatchOfTheDayIsLeftAlone() {
        KayfabeRing ring = Stage.ofSize(4, 1);
        Stage.crown(ring, 2, 3, 0);
        ring.book(1, 0, 0, 1, true, 60, Stage.NONE);
        ring.play();
        int[] want = {FACE, 0, 0, 0, 1, 0, 0};
        for (int what = 0; what < want.length; what++) {
            Check.due("12 not on it, what " + what, want[what], ring.ofWrestler(2, what));
        }
        Check.due("12 not on it, love", 3, ring.love(0, 2));
        Check.due("12 not on it, love", -1, ring.love(0, 3));
        Check.due("12 its title stays", 2, ring.champion(0));
    }

    /** Numbers 0 and 1 are both loved in the towns 0 and 1 and hated in 2 and 3, so each match turns both. */
    private static KayfabeRing twoWhoTurn() {
        KayfabeRing ring = Stage.ofRoles(HEEL, HEEL, HEEL);
        for (int day = 0; day < 12; day++) {
            ring.promo(2 + day % 2, 0, 0);
            ring.promo(2 + day % 2, 1, 0);
            ring.pass();
        }
        Stage.playDays(ring, 17, 0, 0, 2);
        Stage.playDays(ring, 17, 1, 0, 2);
        Stage.playDays(ring, 17, 0, 1, 2);
        Stage.playDays(ring, 17, 1, 1, 2);
        Check.due("12 the one turned", FACE, ring.ofWrestler(0, 0));
        Check.due("12 the other one turned", FACE, ring.ofWrestler(1, 0));
        return ring;
    }

    private static void roles(String what, KayfabeRing ring, int one, int other) {
        Check.due(what + ", the one", one, ring.ofWrestler(0, 0));
        Check.due(what + ", the other one", other, ring.ofWrestler(1, 0));
    }

    private static void bothTurnInOneMatch() {
        KayfabeRing ring = twoWhoTurn();
        Stage.play(ring, 0, 0, 1, 1, Stage.NONE);
        roles("12 both faces turn", ring, HEEL, HEEL);
        ring.pass();
        Stage.play(ring, 0, 1, 0, 1, Stage.NONE);
        roles("12 both heels turn", ring, FACE, FACE);
        ring.pass();
        Stage.book(ring, 1, 0);
        ring.shoot(0);
        ring.play();
        roles("12 both turn, it being real", ring, HEEL, HEEL);
    }

    private static void bothTurnEachItsOwnWay() {
        KayfabeRing ring = twoWhoTurn();
        ring.promo(0, 0, 9);
        roles("13 the one alone", ring, HEEL, FACE);
        Stage.play(ring, 3, 0, 1, 1, Stage.NONE);
        roles("12 each its own way", ring, FACE, HEEL);
        ring.pass();
        ring.promo(0, 1, 9);
        roles("13 the other one alone", ring, FACE, FACE);
        ring.promo(0, 0, 9);
        roles("13 the one, on the same day", ring, HEEL, FACE);
    }

    /** 5 ahead of 6: who turns in a match keeps what that match gave. */
    private static void eachTurnsBehindTheTitle() {
        KayfabeRing ring = twoWhoTurn();
        ring.title();
        Stage.play(ring, 0, 1, 0, 20, 0);
        roles("12 both turned", ring, HEEL, HEEL);
        Check.due("22 the title changed", 1, ring.champion(0));
        Check.due("16 the strain", 20, ring.ofWrestler(0, 1));
        Check.due("16 the strain", 20, ring.ofWrestler(1, 1));
        Check.due("23 once more", 1, ring.beat(1, 0));
    }

    /** 3 ahead of 6: the love is that of the roles as the match begins. */
    private static void rolesAsTheMatchBegins() {
        KayfabeRing ring = twoWhoTurn();
        ring.promo(0, 0, 9);
        int one = ring.love(1, 0);
        int other = ring.love(1, 1);
        Stage.play(ring, 1, 0, 1, 1, Stage.NONE);
        Check.due("12 a heel that wins", one - 6, ring.love(1, 0));
        Check.due("12 a face that loses", other + 2, ring.love(1, 1));
    }

    /** The champion, who was neither, comes to the match of that title: and is one of both as it is played. */
    private static void aChampionComesToItsTitle() {
        for (int place = 0; place <= 1; place++) {
            KayfabeRing ring = Stage.ofSize(3, 1);
            ring.book(1, 0, 0, 1, true, 1, 0);
            Stage.crown(ring, 2, place, 0);
            ring.hurt(place, 1);
            Mendings.due("the champion comes", ring, 53, 0, place == 0 ? 2 : 0, place == 0 ? 1 : 2);
            ring.play();
            Check.due("22 who won has it", place == 0 ? 2 : 0, ring.champion(0));
            Check.due("21 the first one", 2, ring.lineage(0, 0, false));
            if (place == 0) {
                Check.isThrown("21 the champion won", Check.INDEX, () -> ring.lineage(0, 1, false));
            } else {
                Check.due("21 the champion lost", 0, ring.lineage(0, 1, false));
                Check.due("21 on that day", 1, ring.lineage(0, 1, true));
            }
        }
    }

    private static void theTitleOfWhoLeftIsNotAtStake() {
        for (int days = 60; days <= 61; days++) {
            KayfabeRing ring = Stage.ofSize(3, 1);
            Stage.crown(ring, 0, 1, 0);
            ring.book(1, 0, 0, 1, false, 1, 0);
            ring.hurt(0, days);
            Mendings.due("another one comes for the champion", ring, 50, 0, 2, 1);
            Check.due("20 the title stays", 0, ring.ofMatch(1, 0, 4));
            ring.play();
            Check.due("22 hurt for " + days, days == 60 ? 0 : 1, ring.champion(0));
        }
    }

    /** A clause told behind the booking bars nobody in a match of which no place is open. */
    private static void matchesWithoutOpenPlacesAreNotLookedAt() {
        KayfabeRing ring = Stage.ofSize(6, 0);
        Stage.book(ring, 0, 1);
        Stage.book(ring, 2, 3);
        ring.clause(1, 0, 999);
        ring.protect(1, 999);
        ring.hurt(2, 1);
        Mendings.due("the match ahead stays", ring, 50, 0, 0, 1, 4, 3);
        ring.protect(3, 999);
        ring.hurt(4, 1);
        Mendings.due("the match ahead stays, the other one goes", ring, 0, 1, 0, 1);
        Check.due("12 who is barred loses", 100, ring.play());
        Check.due("23 who is barred lost", 1, ring.beat(0, 1));
    }

    private static void whoCameIsOnTheCard() {
        KayfabeRing ring = Stage.ofSize(6, 0);
        Stage.book(ring, 0, 1);
        ring.hurt(0, 1);
        ring.mend();
        Check.isThrown("6 who came is on it", Check.STATE, () -> Stage.book(ring, 2, 3));
        Check.isThrown("6 who came is on it", Check.STATE, () -> Stage.book(ring, 3, 2));
        Check.isThrown("6 who left is hurt", Check.STATE, () -> Stage.book(ring, 0, 3));
        Check.due("6 two others", 1, Stage.book(ring, 3, 4));
        ring.strike(0, 0);
        Check.due("6 who came is off it again", 1, Stage.book(ring, 2, 1));
    }

    private static void whatIsBookedBehindAMendingIsNotReal() {
        KayfabeRing ring = Stage.ofSize(6, 1);
        ring.book(0, 3, 0, 1, true, 50, 0);
        ring.book(0, 3, 2, 3, true, 50, Stage.NONE);
        ring.shoot(0);
        ring.hurt(0, 1);
        ring.hurt(4, 1);
        ring.protect(1, 1);
        Check.due("11 the real one is struck", 1, ring.mend());
        Check.due("20 the other one is not real", 0, ring.ofMatch(0, 0, 5));
        Check.due("6 in its place", 1, ring.book(0, 3, 1, 5, true, 7, Stage.NONE));
        int[] want = {1, 5, 1, 7, Stage.NONE, 0};
        for (int what = 0; what < want.length; what++) {
            Check.due("20 what is booked then, what " + what, want[what], ring.ofMatch(0, 1, what));
        }
    }

    private static void aRealMatchIsMendedAndPlayed() {
        KayfabeRing ring = Stage.ofSkills(10, 20, 40);
        ring.title();
        ring.book(0, 1, 0, 1, false, 25, 0);
        ring.shoot(0);
        ring.hurt(1, 1);
        Mendings.due("somebody comes to a real match", ring, 40, 0, 0, 2);
        Check.due("20 is to win, till it is played", 2, ring.ofMatch(0, 0, 2));
        Check.due("12 the gate", 50, ring.play());
        Check.due("20 nobody won", Stage.NONE, ring.ofMatch(0, 0, 2));
        Check.due("16 who came had it", 1, ring.ofWrestler(2, 6));
        Check.due("16 who left had it not", 0, ring.ofWrestler(1, 6));
        Check.due("16 strain", 25, ring.ofWrestler(2, 1));
        Check.due("22 still vacant", Stage.NONE, ring.champion(0));
        Check.due("24 nobody won", 0, ring.beatAnew(2, 0) + ring.beatAnew(0, 2));
    }

    /** Today's card alone is mended; who comes keeps what is booked for later days. */
    private static void whoCameIsBookedOnLaterDays() {
        KayfabeRing ring = Stage.ofSize(4, 0);
        Stage.book(ring, 0, 1);
        ring.book(1, 2, 2, 0, false, 9, Stage.NONE);
        ring.hurt(0, 2);
        Mendings.due("who is booked tomorrow comes today", ring, 50, 0, 2, 1);
        Check.due("20 tomorrow's first", 2, ring.ofMatch(1, 0, 0));
        Check.due("20 tomorrow's second", 0, ring.ofMatch(1, 0, 1));
        ring.play();
        ring.pass();
        Check.isThrown("12 tomorrow's is open still", Check.STATE, ring::play);
        Mendings.due("tomorrow's", ring, 50, 0, 2, 1);
        Check.due("20 the same place", 1, ring.ofMatch(1, 0, 2));
    }

    /** Each day has a card of its own, of a town of its own. */
    private static void bookedInAnyTownOfAnyDay() {
        KayfabeRing ring = Stage.ofSize(2, 1);
        for (int day = 0; day < 8; day++) {
            Check.due("6 the first of its day", 0, ring.book(day, 3 - day % 4, 0, 1, day % 2 == 0, 1 + day, 0));
        }
        for (int day = 0; day < 8; day++) {
            Check.due("19 town", 3 - day % 4, ring.ofCard(day, 0));
            Check.due("19 minutes", 1 + day, ring.ofCard(day, 2));
            Check.due("20 is to win", day % 2, ring.ofMatch(day, 0, 2));
            Check.due("7 its own", day == 4 ? 0 : 1, day == 4 ? ring.strike(day, 0) : ring.ofCard(day, 1));
        }
        Check.due("19 struck on that day", 0, ring.ofCard(4, 1));
        Check.due("19 not on the next one", 1, ring.ofCard(5, 1));
    }

    /** Each of all pairs has its own, on each side. */
    private static void aClauseIsOfOneAgainstAnother() {
        KayfabeRing ring = Stage.ofSize(10, 0);
        for (int i = 0; i < 100; i++) {
            if (i / 10 != i % 10) {
                Check.due("4 none yet", -1, ring.clause(i / 10, i % 10, i));
            }
        }
        for (int i = 0; i < 100; i++) {
            if (i / 10 != i % 10) {
                Check.due("4 its own", i, ring.clause(i / 10, i % 10, -1));
            }
        }
    }
}
