/** The edges of "Titles" and "Injuries", and of promises 9, 10, 21 and 22. */
public final class TitleEdgesTest {
    public static void main(String[] args) {
        titlesAreVacantAtFirst();
        theWinnerTakesAVacantTitle();
        theChampionWinsAndNothingIsTold();
        theChampionLoses();
        theChampionAsItIsBooked();
        theChampionIsStillOneOfBoth();
        theChampionIsNeither();
        theTitleIsVacantThen();
        realChangesNoTitle();
        injuriesFrom1To200Days();
        injuriesEndAheadOfTheirDay();
        injuriesForLongerStay();
        headsOf30And60DaysAndForGood();
        headsOfThoseWhoAreHurtForLonger();
        forGoodStaysTillTheLastDay();
        titlesOfMoreThan60Days();
        titlesOf60DaysFromThePresentOneOn();
        titlesAndHeads();
        allTitlesOfThatOne();
        vacantIsMadeOnce();
        aCrownAndAnInjuryOnADay();
        Check.finish();
    }

    /** Champions and days of a lineage, in turns, and that there are no more. */
    private static void lineage(String what, KayfabeRing ring, int title, int... want) {
        for (int i = 0; i < want.length; i++) {
            Check.due("21 " + what, want[i], ring.lineage(title, i / 2, i % 2 == 1));
        }
        int length = want.length / 2;
        Check.isThrown("21 no more: " + what, Check.INDEX, () -> ring.lineage(title, length, false));
        Check.isThrown("21 no more: " + what, Check.INDEX, () -> ring.lineage(title, length, true));
        int champion = length == 0 ? Stage.NONE : want[2 * length - 2];
        Check.due("22 " + what, champion, ring.champion(title));
    }

    private static void titlesAreVacantAtFirst() {
        KayfabeRing ring = Stage.ofSize(2, 4);
        for (int title = 0; title < 4; title++) {
            lineage("at first", ring, title);
        }
    }

    private static void theWinnerTakesAVacantTitle() {
        for (int title : new int[] {0, 3}) {
            KayfabeRing ring = Stage.ofSize(10, 4);
            ring.book(0, 0, 9, 0, title == 0, 1, title);
            ring.play();
            lineage("to its winner", ring, title, title == 0 ? 9 : 0, 0);
            lineage("not another one", ring, 3 - title);
        }
    }

    private static void theChampionWinsAndNothingIsTold() {
        KayfabeRing ring = Stage.ofSize(3, 1);
        Stage.crown(ring, 0, 1, 0);
        Stage.crown(ring, 0, 2, 0);
        ring.book(2, 0, 1, 0, false, 1, 0);
        ring.play();
        lineage("the champion won each time", ring, 0, 0, 0);
    }

    private static void theChampionLoses() {
        KayfabeRing ring = Stage.ofSize(3, 1);
        Stage.crown(ring, 0, 1, 0);
        Stage.crown(ring, 1, 0, 0);
        Stage.crown(ring, 2, 1, 0);
        Stage.crown(ring, 0, 2, 0);
        lineage("one behind the other", ring, 0, 0, 0, 1, 1, 2, 2, 0, 3);
        ring.book(4, 0, 0, 1, true, 1, Stage.NONE);
        ring.play();
        ring.pass();
        ring.book(5, 0, 1, 0, true, 1, Stage.NONE);
        ring.play();
        Check.due("22 not at stake", 0, ring.champion(0));
    }

    private static void theChampionAsItIsBooked() {
        KayfabeRing ring = Stage.ofSize(4, 1);
        Check.due("6 vacant as it is booked", 0, ring.book(1, 0, 2, 3, true, 1, 0));
        Stage.play(ring, 0, 0, 1, 1, 0);
        Check.isThrown("6 not any more", Check.STATE, () -> ring.book(2, 0, 2, 3, true, 1, 0));
        Check.due("6 what is booked stays", 0, ring.ofMatch(1, 0, 4));
    }

    private static void theChampionIsStillOneOfBoth() {
        KayfabeRing ring = Stage.ofSize(2, 1);
        ring.book(2, 0, 0, 1, true, 1, 0);
        ring.book(3, 0, 0, 1, true, 1, 0);
        Stage.crown(ring, 0, 1, 0);
        Stage.crown(ring, 1, 0, 0);
        ring.play();
        lineage("another champion than as it was booked", ring, 0, 0, 0, 1, 1, 0, 2);
        ring.pass();
        ring.play();
        lineage("the champion of the day ahead won", ring, 0, 0, 0, 1, 1, 0, 2);
    }

    private static void theChampionIsNeither() {
        KayfabeRing ring = Stage.ofSize(3, 1);
        Stage.crown(ring, 0, 1, 0);
        ring.book(2, 0, 0, 1, true, 1, 0);
        ring.book(3, 0, 0, 1, false, 1, 0);
        Stage.crown(ring, 2, 0, 0);
        ring.play();
        ring.pass();
        ring.play();
        lineage("neither", ring, 0, 0, 0, 2, 1);
        Check.due("12 it counts all the same", 1, ring.beat(1, 0));
        Check.due("20 its title is told", 0, ring.ofMatch(3, 0, 4));
    }

    private static void theTitleIsVacantThen() {
        KayfabeRing ring = Stage.ofSize(3, 1);
        Stage.crown(ring, 0, 1, 0);
        ring.book(2, 0, 0, 1, false, 1, 0);
        Stage.crown(ring, 2, 0, 0);
        ring.hurt(2, 61);
        ring.play();
        lineage("vacant then", ring, 0, 0, 0, 2, 1, Stage.NONE, 2, 1, 2);
    }

    private static void realChangesNoTitle() {
        KayfabeRing ring = Stage.ofSize(2, 2);
        Stage.crown(ring, 0, 1, 0);
        for (int title = 0; title <= 1; title++) {
            ring.book(1 + title, 0, 0, 1, false, 1, title);
            ring.shoot(0);
            ring.play();
            ring.pass();
        }
        lineage("real, the champion is to lose", ring, 0, 0, 0);
        lineage("real, vacant", ring, 1);
    }

    private static void injuriesFrom1To200Days() {
        for (int day : new int[] {0, 1, 799, 800, 999}) {
            KayfabeRing ring = Stage.passTo(Stage.ofSize(10, 0), day);
            Check.isThrown("9 no days", Check.ARGUMENT, () -> ring.hurt(0, 0));
            Check.isThrown("9 201 days", Check.ARGUMENT, () -> ring.hurt(9, 201));
            Check.due("9 nothing changed", 0, ring.ofWrestler(0, 2) + ring.ofWrestler(9, 2));
            Check.due("9 a day", day + 1, ring.hurt(0, 1));
            Check.due("9 200 days", day + 200, ring.hurt(9, 200));
            Check.due("16 a day", day + 1, ring.ofWrestler(0, 2));
            Check.due("16 200 days", day + 200, ring.ofWrestler(9, 2));
            Check.due("16 nobody else", 0, ring.ofWrestler(1, 2));
        }
    }

    private static void injuriesEndAheadOfTheirDay() {
        for (int days : new int[] {1, 2, 30, 200}) {
            KayfabeRing ring = Stage.ofSize(1, 0);
            ring.pass();
            ring.hurt(0, days);
            Stage.passTo(ring, days);
            Check.due("16 hurt on the last day", days + 1, ring.ofWrestler(0, 2));
            Check.isThrown("13 hurt on the last day", Check.STATE, () -> ring.promo(0, 0, 0));
            ring.pass();
            Check.due("16 not hurt now", 0, ring.ofWrestler(0, 2));
            Check.due("13 not hurt now", 9, ring.promo(0, 0, 0));
            Check.due("9 hurt anew", days + 2, ring.hurt(0, 1));
        }
    }

    /** Days of an injury, how many pass, days of the next one, and ahead of which day. */
    private static void injuriesForLongerStay() {
        int[][] injuries = {{1, 0, 1, 1}, {5, 0, 4, 5}, {5, 0, 5, 5}, {5, 0, 6, 6}, {5, 1, 3, 5}, {5, 1, 4, 5},
            {5, 1, 5, 6}, {5, 4, 1, 5}, {5, 4, 2, 6}, {5, 5, 1, 6}, {200, 1, 199, 200}, {200, 1, 200, 201}};
        for (int[] i : injuries) {
            KayfabeRing ring = Stage.ofSize(1, 0);
            ring.hurt(0, i[0]);
            Stage.passTo(ring, i[1]);
            Check.due("9 " + i[2] + " behind " + i[0], i[3], ring.hurt(0, i[2]));
            Check.due("16 " + i[2] + " behind " + i[0], i[3], ring.ofWrestler(0, 2));
        }
    }

    private static void headsOf30And60DaysAndForGood() {
        KayfabeRing ring = Stage.ofSize(10, 0);
        Check.due("10 the first", 30, ring.head(9));
        Check.due("10 the second", 60, ring.head(9));
        Check.due("10 the third", KayfabeRing.FOREVER, ring.head(9));
        Check.due("10 the fourth", KayfabeRing.FOREVER, ring.head(9));
        Check.due("16 four", 4, ring.ofWrestler(9, 3));
        Check.due("16 another one's", 0, ring.ofWrestler(0, 3));
        Stage.passTo(ring, 100);
        Check.due("10 the first, later", 130, ring.head(0));
        Stage.passTo(ring, 129);
        Check.due("16 still hurt", 130, ring.ofWrestler(0, 2));
        ring.pass();
        Check.due("16 not hurt now", 0, ring.ofWrestler(0, 2));
        Check.due("16 the head counts on", 1, ring.ofWrestler(0, 3));
        Check.due("10 the second, when the first is over", 190, ring.head(0));
        Stage.passTo(ring, 190);
        Check.due("16 not hurt now", 0, ring.ofWrestler(0, 2));
        Check.due("10 the third, when the second is over", KayfabeRing.FOREVER, ring.head(0));
    }

    /** Days of an injury, and what the first, the second and the third head answer then. */
    private static void headsOfThoseWhoAreHurtForLonger() {
        int[][] heads = {{29, 30, 60}, {30, 30, 60}, {31, 31, 60}, {59, 59, 60}, {60, 60, 60}, {61, 61, 61},
            {200, 200, 200}};
        for (int[] h : heads) {
            KayfabeRing ring = Stage.ofSize(1, 0);
            ring.hurt(0, h[0]);
            Check.due("10 the first, hurt for " + h[0], h[1], ring.head(0));
            Check.due("10 the second, hurt for " + h[0], h[2], ring.head(0));
            Check.due("10 the third, hurt for " + h[0], KayfabeRing.FOREVER, ring.head(0));
            Check.due("16 three", 3, ring.ofWrestler(0, 3));
        }
    }

    private static void forGoodStaysTillTheLastDay() {
        KayfabeRing ring = Stage.ofSize(2, 0);
        ring.head(0);
        ring.head(0);
        ring.head(0);
        Check.due("9 for good already", KayfabeRing.FOREVER, ring.hurt(0, 1));
        Stage.passTo(ring, 999);
        Check.due("16 for good", KayfabeRing.FOREVER, ring.ofWrestler(0, 2));
        Check.due("9 for good already", KayfabeRing.FOREVER, ring.hurt(0, 200));
        Check.due("10 for good already", KayfabeRing.FOREVER, ring.head(0));
        Check.due("10 the first on the last day", 1029, ring.head(1));
        Check.due("10 the second on the last day", 1059, ring.head(1));
    }

    private static void titlesOfMoreThan60Days() {
        for (int days : new int[] {1, 59, 60, 61, 62, 200}) {
            KayfabeRing ring = Stage.ofSize(3, 1);
            Stage.crown(ring, 0, 1, 0);
            ring.hurt(1, 200);
            Check.due("22 another one is hurt", 0, ring.champion(0));
            ring.hurt(0, days);
            if (days <= 60) {
                lineage(days + " days", ring, 0, 0, 0);
            } else {
                lineage(days + " days", ring, 0, 0, 0, Stage.NONE, 1);
            }
        }
    }

    /** What counts is how long that one is hurt from today on, whichever injury it was. */
    private static void titlesOf60DaysFromThePresentOneOn() {
        KayfabeRing ring = Stage.ofSize(2, 1);
        Stage.crown(ring, 0, 1, 0);
        ring.hurt(0, 60);
        ring.hurt(0, 60);
        Check.due("22 60 twice on a day", 0, ring.champion(0));
        ring.pass();
        ring.hurt(0, 1);
        Check.due("22 59 are left", 0, ring.champion(0));
        ring.hurt(0, 60);
        Check.due("22 60 anew", 0, ring.champion(0));
        ring.pass();
        Check.due("9 61 days", 64, ring.hurt(0, 61));
        lineage("61 days", ring, 0, 0, 0, Stage.NONE, 3);

        KayfabeRing last = Stage.passTo(Stage.ofSize(2, 1), 998);
        Stage.crown(last, 0, 1, 0);
        last.hurt(0, 60);
        Check.due("22 60 days from the last one on", 0, last.champion(0));
        last.hurt(0, 61);
        lineage("61 days from the last one on", last, 0, 0, 998, Stage.NONE, 999);
    }

    private static void titlesAndHeads() {
        KayfabeRing ring = Stage.ofSize(2, 1);
        Stage.crown(ring, 0, 1, 0);
        ring.head(0);
        Check.due("22 the first head", 0, ring.champion(0));
        ring.head(0);
        Check.due("22 the second head is 60 days", 0, ring.champion(0));
        ring.head(0);
        lineage("for good", ring, 0, 0, 0, Stage.NONE, 1);
    }

    /** A champion of none to all of the titles; one of another champion stays. */
    private static void allTitlesOfThatOne() {
        for (int count = 0; count <= 4; count++) {
            KayfabeRing ring = Stage.ofSize(3, 4);
            for (int title = 0; title < 4; title++) {
                Stage.crown(ring, title < count ? 0 : 2, 1, title);
            }
            ring.hurt(0, 61);
            for (int title = 0; title < 4; title++) {
                if (title < count) {
                    lineage("all at once", ring, title, 0, title, Stage.NONE, 4);
                } else {
                    lineage("another one's", ring, title, 2, title);
                }
            }
        }
    }

    private static void vacantIsMadeOnce() {
        KayfabeRing ring = Stage.ofSize(3, 2);
        Stage.crown(ring, 0, 1, 0);
        ring.hurt(0, 61);
        ring.hurt(0, 200);
        ring.head(0);
        ring.head(0);
        ring.head(0);
        lineage("once", ring, 0, 0, 0, Stage.NONE, 1);
        lineage("never held", ring, 1);
        Stage.crown(ring, 1, 2, 0);
        ring.hurt(0, 200);
        lineage("not that one's any more", ring, 0, 0, 0, Stage.NONE, 1, 1, 1);
    }

    private static void aCrownAndAnInjuryOnADay() {
        KayfabeRing ring = Stage.ofSize(2, 1);
        Stage.play(ring, 0, 0, 1, 1, 0);
        ring.hurt(0, 61);
        lineage("both on the first day", ring, 0, 0, 0, Stage.NONE, 0);
    }
}
