/** The edges of "Playing" and of promises 12 to 14, 16 and 23 to 25. */
public final class PlayEdgesTest {
    public static void main(String[] args) {
        nobodyOnItIsHurt();
        itIsPlayedFromTheDayTold();
        gatesOfOneToFiveMatches();
        lovesOfEachEnd();
        aHeelTurnsAt50InTwoTowns();
        aFaceTurnsAtMinus50InTwoTowns();
        oneTownIsNotTwo();
        onlyThoseOfTheMatchTurn();
        promosByMicAndSlips();
        promosAreOneADay();
        aRefusedPromoIsNone();
        strainRests();
        aDayTakesItsCardAway();
        recordsOfAllPairs();
        recordsOfOneWrestler();
        aRunOf512Calls();
        Check.finish();
    }

    /** Each of the ten places of a full card in turn. */
    private static void nobodyOnItIsHurt() {
        for (int hurt = 0; hurt < 10; hurt++) {
            KayfabeRing ring = Stage.ofSize(10, 0);
            for (int i = 0; i < 10; i += 2) {
                Stage.book(ring, i, i + 1);
            }
            ring.hurt(hurt, 1);
            Check.isThrown("12 number " + hurt + " is hurt", Check.STATE, ring::play);
            Check.due("12 no gate", 0, ring.gate(0));
            Check.due("12 nobody won", 0, ring.ofWrestler(0, 4) + ring.ofWrestler(8, 4));
            Check.due("12 not played", 0, ring.ofCard(0, 3));
            ring.strike(0, hurt / 2);
            Check.due("12 without that match", 400, ring.play());
        }
        KayfabeRing other = Stage.ofSize(3, 0);
        Stage.book(other, 0, 1);
        other.hurt(2, 1);
        Check.due("12 who is hurt is not on it", 100, other.play());
    }

    private static void itIsPlayedFromTheDayTold() {
        KayfabeRing ring = Stage.ofSize(2, 0);
        for (int day = 0; day <= 3; day++) {
            ring.book(day, 0, 0, 1, true, 1, -1);
        }
        ring.hurt(1, 2);
        Check.isThrown("12 hurt on the first day", Check.STATE, ring::play);
        ring.pass();
        Check.isThrown("12 hurt on the last day", Check.STATE, ring::play);
        ring.pass();
        Check.due("12 not hurt on the day told", 100, ring.play());
        ring.head(0);
        ring.pass();
        Check.isThrown("12 hurt anew", Check.STATE, ring::play);
    }

    private static void gatesOfOneToFiveMatches() {
        for (int matches = 1; matches <= 5; matches++) {
            KayfabeRing ring = Stage.ofSkills(1, 2, 4, 8, 16, 32, 64, 99, 0, 1);
            int[] sums = {3, 15, 63, 63 + 163, 63 + 163 + 2};
            for (int i = 0; i < 2 * matches; i += 2) {
                ring.book(0, 3, i, i + 1, false, 1, -1);
            }
            Check.due("25 ahead of it", 0, ring.gate(3));
            Check.due("12 of " + matches, sums[matches - 1], ring.play());
            Check.due("25 of " + matches, sums[matches - 1], ring.gate(3));
            Check.due("25 not of another town", 0, ring.gate(0) + ring.gate(1) + ring.gate(2));
        }
    }

    /** Roles of the winner and the loser, and what both get; real matches give nothing. */
    private static void lovesOfEachEnd() {
        int[][] ends = {{0, 1, 6, -2}, {1, 0, -6, 2}, {0, 0, 3, -1}, {1, 1, 3, -1}};
        for (int[] end : ends) {
            for (int place = 0; place <= 1; place++) {
                KayfabeRing ring = Stage.ofRoles(end[place], end[1 - place]);
                ring.book(0, 2, 0, 1, place == 0, 1, -1);
                ring.play();
                Check.due("12 who wins", end[2], ring.love(2, place));
                Check.due("12 who loses", end[3], ring.love(2, 1 - place));
                KayfabeRing real = Stage.ofRoles(end[place], end[1 - place]);
                real.book(0, 2, 0, 1, place == 0, 1, -1);
                real.shoot(0);
                real.play();
                Check.due("12 real", 0, Math.abs(real.love(2, 0)) + Math.abs(real.love(2, 1)));
            }
        }
    }

    /** A day with a match in which both stand so, whoever wins. */
    private static void fight(KayfabeRing ring, int town, int place, boolean isWon) {
        ring.book(ring.day(), town, 0, 1, (place == 0) == isWon, 1, -1);
        ring.play();
        ring.pass();
    }

    private static void fights(KayfabeRing ring, int count, int town, int place, boolean isWon) {
        for (int i = 0; i < count; i++) {
            fight(ring, town, place, isWon);
        }
    }

    private static void aHeelTurnsAt50InTwoTowns() {
        for (int place = 0; place <= 1; place++) {
            KayfabeRing ring = Stage.ofRoles(KayfabeRing.HEEL, KayfabeRing.HEEL);
            fights(ring, 1, 0, place, false);
            fights(ring, 17, 0, place, true);
            fights(ring, 2, 3, place, false);
            fights(ring, 17, 3, place, true);
            Check.due("12 50", 50, ring.love(0, place));
            Check.due("12 49", 49, ring.love(3, place));
            Check.due("12 no heel turns at 50 and 49", KayfabeRing.HEEL, ring.ofWrestler(place, 0));
            fights(ring, 2, 3, place, false);
            Check.due("12 nor at less", KayfabeRing.HEEL, ring.ofWrestler(place, 0));
            fight(ring, 3, place, true);
            Check.due("12 50", 50, ring.love(3, place));
            Check.due("12 a heel turns at 50 twice", KayfabeRing.FACE, ring.ofWrestler(place, 0));
            Check.due("12 the other one does not", KayfabeRing.HEEL, ring.ofWrestler(1 - place, 0));
            fight(ring, 0, place, true);
            Check.due("12 stays a face, and wins as one", 56, ring.love(0, place));
            Check.due("12 stays a face", KayfabeRing.FACE, ring.ofWrestler(place, 0));
        }
    }

    private static void aFaceTurnsAtMinus50InTwoTowns() {
        for (int place = 0; place <= 1; place++) {
            KayfabeRing ring = Stage.ofRoles(KayfabeRing.FACE, KayfabeRing.FACE);
            fights(ring, 50, 1, place, false);
            fights(ring, 49, 2, place, false);
            Check.due("12 -50", -50, ring.love(1, place));
            Check.due("12 -49", -49, ring.love(2, place));
            Check.due("12 no face turns at -50 and -49", KayfabeRing.FACE, ring.ofWrestler(place, 0));
            fight(ring, 2, place, false);
            Check.due("12 -50", -50, ring.love(2, place));
            Check.due("12 a face turns at -50 twice", KayfabeRing.HEEL, ring.ofWrestler(place, 0));
            Check.due("12 a face that is loved stays one", KayfabeRing.FACE, ring.ofWrestler(1 - place, 0));
            fight(ring, 2, place, false);
            Check.due("12 stays a heel, and loses as one", -52, ring.love(2, place));
            Check.due("12 stays a heel", KayfabeRing.HEEL, ring.ofWrestler(place, 0));
        }
    }

    private static void oneTownIsNotTwo() {
        KayfabeRing heels = Stage.ofRoles(KayfabeRing.HEEL, KayfabeRing.HEEL);
        fights(heels, 34, 1, 0, true);
        Check.due("12 the most", 99, heels.love(1, 0));
        Check.due("12 one town, the most", KayfabeRing.HEEL, heels.ofWrestler(0, 0));
        KayfabeRing faces = Stage.ofRoles(KayfabeRing.FACE, KayfabeRing.FACE);
        fights(faces, 100, 1, 0, false);
        Check.due("12 the least", -99, faces.love(1, 0));
        Check.due("12 one town, the least", KayfabeRing.FACE, faces.ofWrestler(0, 0));
    }

    /** Number 0 is loved in two towns and hated in two, so each match and each promo turns that one. */
    private static void onlyThoseOfTheMatchTurn() {
        KayfabeRing ring = Stage.ofRoles(KayfabeRing.HEEL, KayfabeRing.HEEL, KayfabeRing.FACE, KayfabeRing.FACE);
        Stage.promote(ring, 2, 0, 54);
        Stage.promote(ring, 3, 0, 54);
        fights(ring, 17, 0, 0, true);
        fights(ring, 17, 1, 0, true);
        int face = KayfabeRing.FACE;
        Check.due("12 turned", face, ring.ofWrestler(0, 0));
        ring.promo(2, 1, 9);
        Check.due("13 another one's promo", face, ring.ofWrestler(0, 0));
        Stage.play(ring, 2, 2, 3, 1, -1);
        Check.due("12 another one's match", face, ring.ofWrestler(0, 0));
        ring.pass();
        ring.head(0);
        Check.due("10 no turn", face, ring.ofWrestler(0, 0));
        Check.isThrown("13 hurt", Check.STATE, () -> ring.promo(0, 0, 0));
        Check.due("13 a refused promo", face, ring.ofWrestler(0, 0));
        Stage.passTo(ring, ring.day() + 30);
        ring.promo(2, 0, 9);
        Check.due("13 that one's promo", KayfabeRing.HEEL, ring.ofWrestler(0, 0));
        Check.isThrown("13 one a day", Check.STATE, () -> ring.promo(2, 0, 9));
        Check.due("13 a refused promo", KayfabeRing.HEEL, ring.ofWrestler(0, 0));
        Stage.play(ring, 2, 0, 2, 1, -1);
        Check.due("12 that one's match", face, ring.ofWrestler(0, 0));
        Check.isThrown("12 once", Check.STATE, ring::play);
        Check.due("12 a refused match", face, ring.ofWrestler(0, 0));
    }

    /** Mic, slips, and how much the love changes. */
    private static void promosByMicAndSlips() {
        int[][] promos = {{0, 0, 0}, {0, 9, 0}, {9, 0, 0}, {9, 1, 0}, {10, 0, 1}, {10, 1, 0}, {10, 2, 0}, {19, 0, 1},
            {50, 4, 1}, {50, 5, 0}, {50, 6, 0}, {59, 4, 1}, {59, 5, 0}, {89, 8, 0}, {90, 8, 1}, {99, 0, 9}, {99, 8, 1},
            {99, 9, 0}};
        for (int[] p : promos) {
            KayfabeRing ring = new KayfabeRing();
            ring.wrestler(0, p[0], KayfabeRing.FACE);
            ring.wrestler(0, p[0], KayfabeRing.HEEL);
            String what = "13 mic " + p[0] + ", slips " + p[1];
            Check.due(what + ", face", p[2], ring.promo(0, 0, p[1]));
            Check.due(what + ", heel", -p[2], ring.promo(0, 1, p[1]));
        }
    }

    private static void promosAreOneADay() {
        KayfabeRing ring = Stage.ofSize(10, 0);
        for (int wrestler = 0; wrestler < 10; wrestler++) {
            Check.due("13 one for each", 9, ring.promo(wrestler % 4, wrestler, 0));
        }
        for (int town = 0; town < 4; town++) {
            int there = town;
            Check.isThrown("13 the first one's second", Check.STATE, () -> ring.promo(there, 0, 0));
            Check.isThrown("13 the last one's second", Check.STATE, () -> ring.promo(there, 9, 9));
        }
        Stage.play(ring, 0, 0, 9, 1, -1);
        Check.isThrown("13 nor behind a match", Check.STATE, () -> ring.promo(0, 0, 0));
        ring.pass();
        Check.due("13 a promo of nothing", 0, ring.promo(3, 0, 9));
        Check.isThrown("13 is one", Check.STATE, () -> ring.promo(3, 0, 0));
        ring.pass();
        Check.due("13 the next day", 9, ring.promo(3, 0, 0));
    }

    private static void aRefusedPromoIsNone() {
        KayfabeRing ring = Stage.ofSize(1, 0);
        Check.isThrown("13 slips", Check.ARGUMENT, () -> ring.promo(0, 0, 10));
        Check.isThrown("13 slips", Check.ARGUMENT, () -> ring.promo(0, 0, -1));
        Check.isThrown("13 town", Check.INDEX, () -> ring.promo(4, 0, 0));
        Check.due("13 the first that is not refused", 9, ring.promo(0, 0, 0));
        ring.hurt(0, 1);
        Check.isThrown("13 hurt, and said one", Check.STATE, () -> ring.promo(0, 0, 0));
        ring.pass();
        ring.hurt(0, 1);
        Check.isThrown("13 hurt", Check.STATE, () -> ring.promo(0, 0, 0));
        ring.pass();
        Check.due("13 not hurt now", 18, ring.promo(0, 0, 0));
    }

    private static void strainRests() {
        int[][] strains = {{1, 0}, {9, 0}, {10, 0}, {11, 1}, {19, 9}, {20, 10}, {60, 50}};
        for (int[] strain : strains) {
            KayfabeRing ring = Stage.ofSize(10, 0);
            Stage.play(ring, 0, 0, 9, strain[0], -1);
            ring.pass();
            Check.due("14 of the first one", strain[1], ring.ofWrestler(0, 1));
            Check.due("14 of the last one", strain[1], ring.ofWrestler(9, 1));
            Check.due("14 of who had none", 0, ring.ofWrestler(5, 1));
            ring.hurt(0, 200);
            Stage.passTo(ring, 7);
            Check.due("14 at least 0", 0, ring.ofWrestler(0, 1));
        }
    }

    private static void aDayTakesItsCardAway() {
        KayfabeRing ring = Stage.ofSize(4, 0);
        for (int day = 0; day <= 2; day++) {
            ring.book(day, day, 0, 1, true, 10, -1);
            ring.book(day, day, 2, 3, true, 10, -1);
        }
        ring.play();
        ring.pass();
        Check.due("14 played stays", 2, ring.ofCard(0, 1));
        Check.due("14 today's is there", 2, ring.ofCard(1, 1));
        ring.pass();
        Check.due("14 not played is gone", 0, ring.ofCard(1, 1));
        Check.isThrown("14 with its matches", Check.INDEX, () -> ring.ofMatch(1, 0, 0));
        Check.isThrown("14 with its matches", Check.INDEX, () -> ring.strike(1, 0));
        Check.due("14 the first day's stays", 2, ring.ofCard(0, 1));
        Check.due("14 today's is there", 2, ring.ofCard(2, 1));
        Check.due("14 what is gone won nothing", 1, ring.beatAnew(0, 1));
        Check.due("12 today's alone", 2 * (50 + 50), ring.play());
    }

    private static void recordsOfAllPairs() {
        KayfabeRing ring = Stage.ofSize(10, 0);
        for (int i = 0; i < 10; i += 2) {
            Stage.book(ring, i, i + 1);
        }
        Check.due("24 booked is not played", 0, ring.beatAnew(0, 1));
        ring.shoot(2);
        ring.play();
        ring.pass();
        Stage.play(ring, 1, 9, 0, 1, -1);
        for (int one = 0; one < 10; one++) {
            for (int other = 0; other < 10; other++) {
                boolean isFirstDay = one % 2 == 0 && other == one + 1 && one != 4;
                int want = isFirstDay || one == 9 && other == 0 ? 1 : 0;
                Check.due("23 " + one + " against " + other, want, ring.beat(one, other));
                Check.due("24 " + one + " against " + other, want, ring.beatAnew(one, other));
            }
        }
    }

    private static void recordsOfOneWrestler() {
        KayfabeRing ring = Stage.ofSize(2, 0);
        fights(ring, 3, 0, 0, true);
        fights(ring, 2, 0, 0, false);
        Stage.book(ring, 0, 1);
        ring.shoot(0);
        ring.play();
        int[][] want = {{3, 2, 1}, {2, 3, 1}};
        for (int i = 0; i < 6; i++) {
            Check.due("16 won, lost, real", want[i / 3][i % 3], ring.ofWrestler(i / 3, 4 + i % 3));
        }
        Check.due("16 the strain of all", 1, ring.ofWrestler(0, 1));
    }

    /** Three calls a day: the title changes each time, till the 512th call, which asks how often. */
    private static void aRunOf512Calls() {
        KayfabeRing ring = Stage.ofSize(2, 1);
        int calls = 3;
        int changes = 0;
        while (calls + 3 <= 508) {
            ring.book(changes, 0, 0, 1, changes % 2 == 0, 1, 0);
            ring.play();
            ring.pass();
            calls += 3;
            changes++;
        }
        Check.due("21 the last one's day", changes - 1, ring.lineage(0, changes - 1, true));
        Check.due("21 the first one", 0, ring.lineage(0, 0, false));
        Check.isThrown("21 no more", Check.INDEX, () -> ring.lineage(0, 168, true));
        Check.due("21 so many", 168, changes);
        calls += 3;
        Check.due("23 half of them", 84, ring.beat(1, 0));
        calls++;
        Check.due("24 half of them", 84, ring.beatAnew(1, 0));
        calls++;
        Check.due("the 512th call", 512, calls);
    }
}
