/** The edges of "The roster" and of promises 1 to 5: days, wrestlers, loves held at both ends, worths, bars. */
public final class RosterEdgesTest {
    public static void main(String[] args) {
        aNewRingIsEmpty();
        daysAreCountedFrom0AtMost999();
        wrestlersAreTenAtMost();
        titlesAreFourAtMost();
        skillsAndMicsAtBothEnds();
        bothRoles();
        loveIs0AtFirstInEachTown();
        strainAndInjuriesAtFirst();
        promosAreHeldAt99();
        matchesAreHeldAt99();
        heldLoveChangesFromItsEndOn();
        worthLessATenthOfTheStrain();
        worthIsAtLeast1();
        worthOfLoveWithoutItsSign();
        aClauseComesInPlaceOfTheOneBefore();
        aProtectionComesInPlaceOfTheOneBefore();
        Check.finish();
    }

    private static void aNewRingIsEmpty() {
        KayfabeRing ring = new KayfabeRing();
        Check.isThrown("11 no card", Check.STATE, ring::mend);
        Check.isThrown("12 no card", Check.STATE, ring::play);
        Check.isThrown("26 no card", Check.STATE, ring::mending);
        Check.isThrown("27 no card", Check.STATE, ring::mendingAnew);
        Check.isThrown("7 no card", Check.INDEX, () -> ring.strike(0, 0));
        Check.isThrown("8 no card", Check.INDEX, () -> ring.shoot(0) ? 1 : 0);
        Check.isThrown("20 no card", Check.INDEX, () -> ring.ofMatch(0, 0, 0));
        Check.isThrown("6 nobody to book", Check.INDEX, () -> ring.book(0, 0, 0, 1, true, 1, Stage.NONE));
        Check.due("1 the day 0", 0, ring.day());
        Check.due("14 a day passes for nobody", 1, ring.pass());
    }

    /** The last day lies behind the 512th call, which the document leaves free: so it is looked at here alone. */
    private static void daysAreCountedFrom0AtMost999() {
        KayfabeRing ring = Stage.ofSize(2, 0);
        Check.due("15 the first day", 0, ring.day());
        Stage.passTo(ring, 998);
        Check.due("14 to the last day", 999, ring.pass());
        Check.isThrown("14 not behind it", Check.STATE, ring::pass);
        Check.due("15 it stays the last day", 999, ring.day());
        Check.isThrown("14 not behind it, again", Check.STATE, ring::pass);
        Check.due("12 the last day can be played", 100, Stage.play(ring, 0, 0, 1, 60, Stage.NONE));
        Check.isThrown("12 once", Check.STATE, ring::play);
        Check.due("13 a promo on the last day", 3 + 9, ring.promo(0, 0, 0));
        Check.isThrown("13 one a day", Check.STATE, () -> ring.promo(0, 0, 0));
        Check.due("24 its matches count", 1, ring.beatAnew(0, 1));
        Check.isThrown("14 nor when it is played", Check.STATE, ring::pass);
        Check.due("14 nothing rests then", 60, ring.ofWrestler(0, 1));
    }

    private static void wrestlersAreTenAtMost() {
        KayfabeRing ring = new KayfabeRing();
        for (int number = 0; number < 10; number++) {
            Check.due("2 numbered from 0", number, ring.wrestler(number, 0, 0));
        }
        Check.isThrown("2 no eleventh", Check.STATE, () -> ring.wrestler(0, 0, 0));
        Check.isThrown("2 none such then", Check.INDEX, () -> ring.love(0, 10));
        ring.pass();
        Check.isThrown("2 nor later", Check.STATE, () -> ring.wrestler(0, 0, 0));
        Check.due("2 the tenth stays", 9, ring.worth(0, 9));
    }

    private static void titlesAreFourAtMost() {
        KayfabeRing ring = new KayfabeRing();
        for (int number = 0; number < 4; number++) {
            Check.due("3 numbered from 0", number, ring.title());
        }
        Check.isThrown("3 no fifth", Check.STATE, ring::title);
        Check.isThrown("3 none such then", Check.INDEX, () -> ring.champion(4));
        ring.pass();
        Check.isThrown("3 nor later", Check.STATE, ring::title);
        Check.due("3 the fourth stays", Stage.NONE, ring.champion(3));
    }

    private static void skillsAndMicsAtBothEnds() {
        int[][] mics = {{0, 0}, {9, 0}, {10, 1}, {19, 1}, {20, 2}, {89, 8}, {90, 9}, {99, 9}};
        for (int[] mic : mics) {
            KayfabeRing ring = new KayfabeRing();
            ring.wrestler(99, mic[0], KayfabeRing.FACE);
            ring.wrestler(0, mic[0], KayfabeRing.HEEL);
            Check.due("2 the most skill", 99, ring.worth(3, 0));
            Check.due("2 the least skill", 1, ring.worth(3, 1));
            Check.due("13 a face's mic " + mic[0], mic[1], ring.promo(0, 0, 0));
            Check.due("13 a heel's mic " + mic[0], -mic[1], ring.promo(3, 1, 0));
        }
    }

    private static void bothRoles() {
        KayfabeRing ring = Stage.ofRoles(KayfabeRing.FACE, KayfabeRing.HEEL);
        Check.due("2 FACE is 0", 0, ring.ofWrestler(0, 0));
        Check.due("2 HEEL is 1", 1, ring.ofWrestler(1, 0));
    }

    private static void loveIs0AtFirstInEachTown() {
        KayfabeRing ring = Stage.ofSize(10, 0);
        for (int town = 0; town <= 3; town++) {
            for (int wrestler = 0; wrestler < 10; wrestler++) {
                Check.due("17 0 at first", 0, ring.love(town, wrestler));
            }
        }
        ring.promo(3, 9, 0);
        Check.due("17 in that town alone", 9, ring.love(3, 9));
        Check.due("17 not in the one ahead", 0, ring.love(2, 9));
        Check.due("17 of that one alone", 0, ring.love(3, 8));
    }

    private static void strainAndInjuriesAtFirst() {
        KayfabeRing ring = Stage.ofSize(10, 0);
        for (int what = 1; what <= 6; what++) {
            Check.due("16 at first, what " + what, 0, ring.ofWrestler(0, what));
            Check.due("16 at first, what " + what, 0, ring.ofWrestler(9, what));
        }
    }

    /** From so much love, by a promo that slips so much, to so much love; for a heel all below 0. */
    private static void promosAreHeldAt99() {
        int[][] promos = {{89, 0, 98}, {90, 0, 99}, {91, 0, 99}, {97, 8, 98}, {98, 8, 99}, {98, 7, 99}, {98, 0, 99},
            {99, 9, 99}, {99, 8, 99}, {99, 0, 99}};
        for (int[] promo : promos) {
            KayfabeRing ring = Stage.ofRoles(KayfabeRing.FACE, KayfabeRing.HEEL);
            for (int wrestler = 0; wrestler <= 1; wrestler++) {
                int sign = wrestler == 0 ? 1 : -1;
                Stage.promote(ring, 2, wrestler, promo[0]);
                Check.due("13 held from " + promo[0], sign * promo[2], ring.promo(2, wrestler, promo[1]));
                Check.due("17 held from " + promo[0], sign * promo[2], ring.love(2, wrestler));
            }
        }
    }

    /** Role, role of the other one, whether that one wins, so much love, and so much then. */
    private static void matchesAreHeldAt99() {
        int face = KayfabeRing.FACE;
        int heel = KayfabeRing.HEEL;
        int[][] matches = {
            {face, heel, 1, 92, 98}, {face, heel, 1, 93, 99}, {face, heel, 1, 94, 99}, {face, heel, 1, 99, 99},
            {face, heel, 0, 96, 98}, {face, heel, 0, 97, 99}, {face, heel, 0, 98, 99}, {face, heel, 0, 99, 99},
            {face, face, 1, 95, 98}, {face, face, 1, 96, 99}, {face, face, 1, 97, 99}, {face, face, 1, 99, 99},
            {heel, face, 1, -92, -98}, {heel, face, 1, -93, -99}, {heel, face, 1, -94, -99}, {heel, face, 1, -99, -99},
            {heel, face, 0, -96, -98}, {heel, face, 0, -97, -99}, {heel, face, 0, -98, -99}, {heel, face, 0, -99, -99},
            {heel, heel, 0, -97, -98}, {heel, heel, 0, -98, -99}, {heel, heel, 0, -99, -99},
            {face, face, 0, 99, 98}, {heel, heel, 1, -99, -96},
        };
        for (int[] m : matches) {
            KayfabeRing ring = Stage.ofRoles(m[0], m[1]);
            Stage.promote(ring, 1, 0, Math.abs(m[3]));
            Check.due("13 so far", m[3], ring.love(1, 0));
            ring.book(ring.day(), 1, 0, 1, m[2] == 1, 1, Stage.NONE);
            ring.play();
            Check.due("12 roles " + m[0] + ", " + m[1] + ", wins " + m[2] + ", from " + m[3], m[4], ring.love(1, 0));
        }
    }

    /** What was cut off at an end is not kept. */
    private static void heldLoveChangesFromItsEndOn() {
        KayfabeRing ring = Stage.ofRoles(KayfabeRing.FACE, KayfabeRing.FACE, KayfabeRing.HEEL, KayfabeRing.HEEL);
        Stage.promote(ring, 0, 0, 98);
        Stage.promote(ring, 0, 2, 98);
        ring.promo(0, 0, 0);
        ring.promo(0, 2, 0);
        Stage.playDays(ring, 1, 0, 1, 0);
        Stage.playDays(ring, 1, 0, 2, 3);
        Check.due("17 one less than 99", 98, ring.love(0, 0));
        Check.due("17 three more than -99", -96, ring.love(0, 2));
    }

    /** A strain, and the worth of a skill of 50 with it. */
    private static void worthLessATenthOfTheStrain() {
        int[][] strains = {{1, 50}, {9, 50}, {10, 49}, {11, 49}, {19, 49}, {20, 48}, {59, 45}, {60, 44}};
        for (int[] strain : strains) {
            KayfabeRing ring = Stage.ofSize(2, 0);
            Stage.play(ring, 0, 0, 1, strain[0], Stage.NONE);
            Check.due("16 strain", strain[0], ring.ofWrestler(0, 1));
            Check.due("18 of the one, strain " + strain[0], strain[1], ring.worth(1, 0));
            Check.due("18 of the other, strain " + strain[0], strain[1], ring.worth(1, 1));
            Check.due("18 with the love of 3", strain[1] + 3, ring.worth(0, 0));
        }
        KayfabeRing tired = Stage.ofSize(2, 0);
        Stage.play(tired, 0, 0, 1, 60, Stage.NONE);
        tired.pass();
        Stage.play(tired, 0, 0, 1, 50, Stage.NONE);
        Check.due("18 strain 100", 40, tired.worth(1, 0));
        tired.pass();
        Check.due("18 strain 90", 41, tired.worth(1, 0));
    }

    /** A skill, a strain, and the worth. */
    private static void worthIsAtLeast1() {
        int[][] worths = {{0, 0, 1}, {1, 0, 1}, {2, 0, 2}, {0, 60, 1}, {1, 9, 1}, {1, 10, 1}, {2, 10, 1}, {2, 19, 1},
            {2, 20, 1}, {3, 19, 2}, {3, 20, 1}, {3, 30, 1}, {7, 59, 2}, {7, 60, 1}, {8, 60, 2}};
        for (int[] w : worths) {
            KayfabeRing ring = Stage.ofSkills(w[0], 50);
            if (w[1] > 0) {
                Stage.play(ring, 0, 0, 1, w[1], Stage.NONE);
            }
            Check.due("18 skill " + w[0] + ", strain " + w[1], w[2], ring.worth(1, 0));
        }
        KayfabeRing least = Stage.ofSkills(0, 1);
        Check.due("12 two of the least worth", 2, Stage.play(least, 0, 0, 1, 60, Stage.NONE));
        least.pass();
        Check.due("12 the least with strain and love", 2, Stage.play(least, 0, 0, 1, 60, Stage.NONE));
    }

    private static void worthOfLoveWithoutItsSign() {
        KayfabeRing ring = new KayfabeRing();
        ring.wrestler(99, 99, KayfabeRing.FACE);
        ring.wrestler(99, 99, KayfabeRing.HEEL);
        ring.wrestler(0, 10, KayfabeRing.HEEL);
        Stage.promote(ring, 0, 0, 99);
        Stage.promote(ring, 0, 1, 99);
        Check.due("18 the most, loved", 198, ring.worth(0, 0));
        Check.due("18 the most, hated", 198, ring.worth(0, 1));
        Check.due("12 the most gate of a match", 396, Stage.play(ring, 0, 0, 1, 60, Stage.NONE));
        ring.promo(3, 2, 0);
        Check.due("18 love of -1 and no skill", 1, ring.worth(3, 2));
        ring.pass();
        ring.promo(3, 2, 0);
        Check.due("18 love of -2 and no skill", 2, ring.worth(3, 2));
    }

    private static void aClauseComesInPlaceOfTheOneBefore() {
        KayfabeRing ring = Stage.ofSize(10, 0);
        int[] days = {0, 999, -1, -1, 1, 0, 998, 999};
        int before = -1;
        for (int day : days) {
            Check.due("4 the one before", before, ring.clause(9, 0, day));
            before = day;
        }
        Check.due("4 none of the other one", -1, ring.clause(0, 9, 5));
        Check.due("4 none against another one", -1, ring.clause(9, 1, 5));
        ring.clause(9, 0, 3);
        Check.due("4 a sooner last day holds", 0, ring.book(4, 0, 0, 9, true, 1, Stage.NONE));
        Check.isThrown("4 up to it", Check.STATE, () -> ring.book(3, 0, 0, 9, true, 1, Stage.NONE));
        ring.clause(9, 0, -1);
        Check.due("4 none bars nothing", 0, ring.book(0, 0, 0, 9, true, 1, Stage.NONE));
    }

    private static void aProtectionComesInPlaceOfTheOneBefore() {
        KayfabeRing ring = Stage.ofSize(10, 0);
        int[] days = {1, 999, 0, 0, 998, 1, 999};
        int before = 0;
        for (int day : days) {
            Check.due("5 the one before", before, ring.protect(9, day));
            before = day;
        }
        Check.due("5 none of another one", 0, ring.protect(8, 5));
        ring.protect(9, 4);
        Check.due("5 a sooner day holds", 0, ring.book(4, 0, 0, 9, true, 1, Stage.NONE));
        Check.isThrown("5 ahead of it", Check.STATE, () -> ring.book(3, 0, 0, 9, true, 1, Stage.NONE));
        ring.protect(9, 0);
        Check.due("5 none bars nothing", 0, ring.book(0, 0, 0, 9, true, 1, Stage.NONE));
    }
}
