/** Promises 12, 17, 18 and 21 to 25: playing, loves, worths, lineages, records and gates. */
public final class PlayPromisesTest {
    private static final int MIN = Integer.MIN_VALUE;
    private static final int MAX = Integer.MAX_VALUE;

    public static void main(String[] args) {
        promise12();
        promise12Real();
        promise12Titles();
        promise12Turns();
        promise12TurnsAt50();
        promise12TurnsAtMinus50();
        turnsOnceAtMost();
        promise17();
        promise18();
        promise21();
        promise22();
        promises23And24();
        promise25();
        longUse();
        Check.finish();
    }

    /** Faces of even numbers, heels of odd ones. */
    private static KayfabeRing ring() {
        KayfabeRing ring = new KayfabeRing();
        for (int i = 0; i < 10; i++) {
            ring.wrestler(10 * i, 99, i % 2);
        }
        ring.title();
        ring.title();
        return ring;
    }

    private static void playOne(KayfabeRing ring, int town, int winner, int loser, int title) {
        int day = ring.day();
        ring.book(day, town, winner, loser, true, 1, title);
        ring.play();
        ring.pass();
    }

    private static void promise12() {
        KayfabeRing ring = ring();
        Check.isThrown("12 none", Check.STATE, ring::play);
        ring.book(1, 2, 0, 1, true, 9, -1);
        Check.isThrown("12 none today", Check.STATE, ring::play);
        ring.book(0, 2, 2, 3, true, 25, -1);
        ring.book(0, 2, 5, 4, true, 11, -1);
        ring.book(0, 2, 6, 8, false, 12, -1);
        ring.book(0, 2, 7, 9, false, 13, -1);
        ring.hurt(9, 1);
        Check.isThrown("12 somebody is hurt", Check.STATE, ring::play);
        Check.due("12 nothing changed", 0, ring.gate(2));
        ring.strike(0, 3);
        KayfabeRing other = ring();
        other.book(0, 2, 2, 3, true, 25, -1);
        other.book(0, 2, 4, 5, true, 25, -1);
        other.hurt(2, 1);
        Check.isThrown("12 the first one is hurt", Check.STATE, other::play);
        Check.due("12 worths ahead of the love and the strain", 20 + 30 + 40 + 50 + 60 + 80, ring.play());
        Check.due("12 a face that wins", 6, ring.love(2, 2));
        Check.due("12 a heel that loses", -2, ring.love(2, 3));
        Check.due("12 a heel that wins", -6, ring.love(2, 5));
        Check.due("12 a face that loses", 2, ring.love(2, 4));
        Check.due("12 alike, who wins", 3, ring.love(2, 8));
        Check.due("12 alike, who loses", -1, ring.love(2, 6));
        Check.due("12 in the town alone", 0, ring.love(1, 2));
        Check.due("12 strain", 25, ring.ofWrestler(2, 1));
        Check.due("12 strain", 25, ring.ofWrestler(3, 1));
        Check.due("12 strain", 12, ring.ofWrestler(8, 1));
        Check.due("12 who was not on it", 0, ring.ofWrestler(7, 1));
        Check.due("12 won", 1, ring.ofWrestler(5, 4));
        Check.due("12 lost", 1, ring.ofWrestler(4, 5));
        Check.isThrown("12 once", Check.STATE, ring::play);
        ring.pass();
        Check.due("12 the next day's", 11, ring.play());
        ring.pass();
        ring.book(2, 0, 7, 9, false, 13, -1);
        ring.play();
        Check.due("12 alike heels, who wins", 3, ring.love(0, 9));
        Check.due("12 alike heels, who loses", -1, ring.love(0, 7));
    }

    private static void promise12Real() {
        KayfabeRing ring = ring();
        ring.book(0, 1, 4, 5, true, 30, 0);
        ring.shoot(0);
        Check.due("12 real: the gate", 90, ring.play());
        Check.due("12 real: the gate", 90, ring.gate(1));
        Check.due("12 real: nobody wins", 0, ring.ofWrestler(4, 4) + ring.ofWrestler(5, 5) + ring.beat(4, 5));
        Check.due("12 real: counted", 1, ring.ofWrestler(4, 6));
        Check.due("12 real: counted", 1, ring.ofWrestler(5, 6));
        Check.due("12 real: no love", 0, ring.love(1, 4));
        Check.due("12 real: no love", 0, ring.love(1, 5));
        Check.due("12 real: strain", 30, ring.ofWrestler(4, 1));
        Check.due("12 real: strain", 30, ring.ofWrestler(5, 1));
        Check.due("12 real: no title", KayfabeRing.NONE, ring.champion(0));
    }

    private static void promise12Titles() {
        KayfabeRing ring = ring();
        ring.book(0, 0, 0, 1, true, 1, 0);
        ring.book(1, 0, 0, 2, true, 1, 0);
        ring.book(2, 0, 0, 3, false, 1, 0);
        ring.book(3, 0, 0, 4, false, 1, 0);
        ring.play();
        Check.isThrown("12 the champion is neither", Check.STATE, () -> ring.book(0, 0, 4, 5, true, 1, 0));
        Check.due("12 vacant: to its winner", 0, ring.champion(0));
        ring.pass();
        ring.play();
        Check.due("12 the champion wins", 0, ring.champion(0));
        Check.isThrown("12 no change, no lineage", Check.INDEX, () -> ring.lineage(0, 1, true));
        ring.pass();
        ring.play();
        Check.due("12 the champion loses", 3, ring.champion(0));
        Check.due("12 its day", 2, ring.lineage(0, 1, true));
        ring.pass();
        Check.isThrown("20 what", Check.INDEX, () -> ring.ofMatch(3, 1, 0));
    }

    private static void promise12Turns() {
        KayfabeRing ring = new KayfabeRing();
        ring.wrestler(1, 99, KayfabeRing.HEEL);
        ring.wrestler(1, 99, KayfabeRing.HEEL);
        for (int i = 0; i < 16; i++) {
            playOne(ring, 0, 0, 1, -1);
            playOne(ring, 1, 0, 1, -1);
        }
        playOne(ring, 0, 0, 1, -1);
        Check.due("12 one town of 50 or more", 51, ring.love(0, 0));
        Check.due("12 48 is no 50", 48, ring.love(1, 0));
        Check.due("12 still a heel", KayfabeRing.HEEL, ring.ofWrestler(0, 0));
        playOne(ring, 1, 0, 1, -1);
        Check.due("12 two towns", 51, ring.love(1, 0));
        Check.due("12 turned", KayfabeRing.FACE, ring.ofWrestler(0, 0));
        Check.due("12 the other one not", KayfabeRing.HEEL, ring.ofWrestler(1, 0));
        playOne(ring, 1, 0, 1, -1);
        Check.due("12 as a face now", 57, ring.love(1, 0));
        Check.due("12 against a face", -19, ring.love(1, 1));
    }

    private static void promise12TurnsAt50() {
        KayfabeRing ring = new KayfabeRing();
        ring.wrestler(1, 59, KayfabeRing.HEEL);
        ring.wrestler(1, 99, KayfabeRing.HEEL);
        for (int i = 0; i < 17; i++) {
            playOne(ring, 0, 0, 1, -1);
        }
        playOne(ring, 0, 1, 0, -1);
        Check.due("12 50 in one town", 50, ring.love(0, 0));
        for (int i = 0; i < 16; i++) {
            playOne(ring, 1, 0, 1, -1);
        }
        playOne(ring, 1, 1, 0, -1);
        Check.due("12 not in the other one", KayfabeRing.HEEL, ring.ofWrestler(0, 0));
        for (int i = 0; i < 20; i++) {
            Check.due("13 a heel that far", KayfabeRing.HEEL, ring.ofWrestler(0, 0));
            ring.promo(2 + i % 2, 0, i == 19 ? 1 : 0);
            ring.pass();
        }
        playOne(ring, 1, 0, 1, -1);
        Check.due("12 50 in two towns", 50, ring.love(1, 0));
        Check.due("12 turned at 50", KayfabeRing.FACE, ring.ofWrestler(0, 0));
        Check.due("13 hated in one town", -50, ring.love(2, 0));
        Check.due("13 in the other not enough", -49, ring.love(3, 0));
        ring.promo(2, 0, 9);
        Check.due("13 not turned", KayfabeRing.FACE, ring.ofWrestler(0, 0));
        ring.pass();
        playOne(ring, 3, 1, 0, -1);
        Check.due("12 not turned", KayfabeRing.FACE, ring.ofWrestler(0, 0));
    }

    private static void promise12TurnsAtMinus50() {
        KayfabeRing ring = new KayfabeRing();
        ring.wrestler(1, 50, KayfabeRing.HEEL);
        ring.wrestler(1, 99, KayfabeRing.HEEL);
        for (int i = 0; i < 20; i++) {
            Check.due("13 the mic divided by 10", -5 * (1 + i / 2), ring.promo(2 + i % 2, 0, 0));
            ring.pass();
        }
        for (int i = 0; i < 34; i++) {
            playOne(ring, i % 2, 0, 1, -1);
        }
        Check.due("12 a face now", KayfabeRing.FACE, ring.ofWrestler(0, 0));
        ring.promo(0, 0, 9);
        Check.due("13 turned at -50", KayfabeRing.HEEL, ring.ofWrestler(0, 0));
    }

    /** A heel hated in two towns and loved in two turns at every match and every promo, once each time. */
    private static void turnsOnceAtMost() {
        KayfabeRing ring = new KayfabeRing();
        ring.wrestler(1, 99, KayfabeRing.HEEL);
        ring.wrestler(1, 0, KayfabeRing.HEEL);
        for (int i = 0; i < 12; i++) {
            ring.promo(2 + i % 2, 0, 0);
            ring.pass();
        }
        for (int i = 0; i < 34; i++) {
            Check.due("12 a heel that far", KayfabeRing.HEEL, ring.ofWrestler(0, 0));
            playOne(ring, i % 2, 0, 1, -1);
        }
        Check.due("12 turned once", KayfabeRing.FACE, ring.ofWrestler(0, 0));
        Check.due("13 a promo turns, by nothing too", -54, ring.promo(2, 0, 9));
        Check.due("13 turned once", KayfabeRing.HEEL, ring.ofWrestler(0, 0));
        ring.pass();
        ring.book(ring.day(), 2, 0, 1, true, 1, -1);
        ring.shoot(0);
        ring.play();
        Check.due("12 a real match turns too", KayfabeRing.FACE, ring.ofWrestler(0, 0));
        ring.pass();
        Check.due("12 passing does not turn", KayfabeRing.FACE, ring.ofWrestler(0, 0));
        ring.book(ring.day(), 2, 1, 0, true, 1, -1);
        ring.play();
        Check.due("12 the second one turns too", KayfabeRing.HEEL, ring.ofWrestler(0, 0));
        ring.pass();
        ring.promo(0, 0, 9);
        Check.due("13 a heel's promo turns", KayfabeRing.FACE, ring.ofWrestler(0, 0));
        Check.due("13 the love ahead of the turn", 51, ring.love(0, 0));
    }

    private static void promise17() {
        KayfabeRing ring = ring();
        int[][] nothing = {{-1, 0}, {4, 0}, {0, -1}, {0, 10}, {MIN, 0}, {MAX, 0}, {0, MIN}, {0, MAX}};
        for (int[] n : nothing) {
            Check.isThrown("17 no such town or wrestler", Check.INDEX, () -> ring.love(n[0], n[1]));
            Check.isThrown("18 no such town or wrestler", Check.INDEX, () -> ring.worth(n[0], n[1]));
        }
        for (int town = 0; town < 4; town++) {
            Check.due("17 at first", 0, ring.love(town, 9));
        }
        for (int i = 0; i < 12; i++) {
            ring.promo(3, 0, 0);
            ring.promo(3, 1, 0);
            ring.pass();
        }
        Check.due("17 at most", 99, ring.love(3, 0));
        Check.due("17 at least", -99, ring.love(3, 1));
        playOne(ring, 3, 0, 1, -1);
        Check.due("17 held as a match is played", 99, ring.love(3, 0));
        Check.due("17 held as a match is played", -99, ring.love(3, 1));
        playOne(ring, 3, 2, 0, -1);
        Check.due("17 less from the most on", 98, ring.love(3, 0));
    }

    private static void promise18() {
        KayfabeRing ring = ring();
        Check.due("18 skill", 50, ring.worth(0, 5));
        Check.due("18 at least 1", 1, ring.worth(0, 0));
        ring.promo(1, 5, 0);
        Check.due("18 the love without its sign", 59, ring.worth(1, 5));
        Check.due("18 there", 50, ring.worth(0, 5));
        ring.book(0, 0, 0, 5, true, 19, -1);
        ring.book(0, 0, 1, 2, true, 60, -1);
        ring.play();
        Check.due("18 a tenth of the strain, rounded down", 51, ring.worth(0, 5));
        Check.due("18 a tenth of the strain, rounded down", 58, ring.worth(1, 5));
        Check.due("18 at least 1", 4, ring.worth(1, 1));
        ring.pass();
        ring.book(1, 0, 1, 2, true, 60, -1);
        ring.play();
        Check.due("18 at least 1", 1, ring.worth(2, 1));
        ring.pass();
        ring.book(2, 0, 1, 2, true, 60, -1);
        ring.play();
        Check.due("18 never less", 1, ring.worth(2, 1));
    }

    private static void promise21() {
        KayfabeRing ring = ring();
        playOne(ring, 0, 0, 1, 1);
        playOne(ring, 0, 1, 0, 1);
        ring.pass();
        ring.hurt(1, 200);
        playOne(ring, 0, 2, 3, 1);
        int[][] nothing = {{-1, 0}, {2, 0}, {0, 0}, {1, -1}, {1, 4}, {MIN, 0}, {MAX, 0}, {1, MIN}, {1, MAX}};
        for (int[] n : nothing) {
            Check.isThrown("21 nothing such", Check.INDEX, () -> ring.lineage(n[0], n[1], true));
            Check.isThrown("21 nothing such", Check.INDEX, () -> ring.lineage(n[0], n[1], false));
        }
        int[] holders = {0, 1, KayfabeRing.NONE, 2};
        int[] days = {0, 1, 3, 3};
        for (int at = 0; at < holders.length; at++) {
            Check.due("21 champion", holders[at], ring.lineage(1, at, false));
            Check.due("21 day", days[at], ring.lineage(1, at, true));
        }
    }

    private static void promise22() {
        KayfabeRing ring = ring();
        for (int title : new int[] {-1, 2, MIN, MAX}) {
            Check.isThrown("22 no such title", Check.INDEX, () -> ring.champion(title));
        }
        Check.due("22 vacant at first", KayfabeRing.NONE, ring.champion(0));
        playOne(ring, 0, 4, 5, 0);
        Check.due("22 the winner", 4, ring.champion(0));
        Check.due("22 of that title alone", KayfabeRing.NONE, ring.champion(1));
        int day = ring.day();
        ring.book(day + 1, 0, 4, 5, true, 1, 0);
        playOne(ring, 0, 7, 4, 0);
        Check.due("22 the next one", 7, ring.champion(0));
        ring.play();
        Check.due("22 not at stake without its champion", 7, ring.champion(0));
        Check.due("20 the match keeps its title", 0, ring.ofMatch(day + 1, 0, 4));
        ring.pass();
        ring.book(day + 2, 0, 7, 5, true, 1, 0);
        ring.mend();
        ring.book(day + 3, 0, 7, 5, true, 1, 0);
        ring.hurt(7, 1);
        ring.mend();
        ring.play();
        Check.due("22 a stand-in wins nothing", 7, ring.champion(0));
        ring.pass();
        ring.hurt(7, 61);
        Check.due("22 vacant", KayfabeRing.NONE, ring.champion(0));
        ring.mend();
        Check.due("11 the title stays", 0, ring.ofMatch(day + 3, 0, 4));
        int standIn = ring.ofMatch(day + 3, 0, 0);
        ring.play();
        Check.due("22 vacant as it is played", standIn, ring.champion(0));
    }

    private static void promises23And24() {
        KayfabeRing ring = ring();
        int[][] nothing = {{-1, 0}, {10, 0}, {0, -1}, {0, 10}, {MIN, 0}, {MAX, 0}, {0, MIN}, {0, MAX}};
        for (int[] n : nothing) {
            Check.isThrown("23 no such wrestler", Check.INDEX, () -> ring.beat(n[0], n[1]));
            Check.isThrown("24 no such wrestler", Check.INDEX, () -> ring.beatAnew(n[0], n[1]));
        }
        playOne(ring, 0, 4, 5, -1);
        playOne(ring, 1, 4, 5, -1);
        playOne(ring, 2, 5, 4, -1);
        playOne(ring, 3, 4, 6, -1);
        int day = ring.day();
        ring.book(day, 0, 5, 4, false, 1, -1);
        ring.play();
        ring.pass();
        ring.book(day + 1, 0, 4, 5, true, 1, -1);
        ring.shoot(0);
        ring.play();
        ring.pass();
        ring.book(day + 2, 0, 4, 5, true, 1, -1);
        ring.pass();
        ring.book(day + 3, 0, 4, 5, true, 1, -1);
        ring.book(day + 4, 0, 4, 5, true, 1, -1);
        beaten(ring, 4, 5, 3);
        beaten(ring, 5, 4, 1);
        beaten(ring, 4, 6, 1);
        beaten(ring, 6, 4, 0);
        beaten(ring, 4, 4, 0);
        beaten(ring, 0, 9, 0);
        ring.play();
        beaten(ring, 4, 5, 4);

        KayfabeRing struck = ring();
        struck.book(0, 0, 4, 5, true, 1, -1);
        struck.book(0, 0, 6, 7, true, 1, -1);
        struck.strike(0, 0);
        struck.play();
        beaten(struck, 4, 5, 0);
        beaten(struck, 6, 7, 1);
    }

    private static void beaten(KayfabeRing ring, int wrestler, int other, int want) {
        Check.due("23 how often", want, ring.beat(wrestler, other));
        Check.due("24 how often", want, ring.beatAnew(wrestler, other));
    }

    private static void promise25() {
        KayfabeRing ring = ring();
        for (int town : new int[] {-1, 4, MIN, MAX}) {
            Check.isThrown("25 no such town", Check.INDEX, () -> ring.gate(town));
        }
        ring.book(0, 3, 6, 7, true, 1, -1);
        ring.book(0, 3, 8, 9, true, 1, -1);
        Check.due("25 nothing yet", 0, ring.gate(3));
        Check.due("12 how much more", 300, ring.play());
        Check.due("25 so far", 300, ring.gate(3));
        Check.due("25 of that town alone", 0, ring.gate(0));
        ring.pass();
        ring.book(1, 3, 6, 8, true, 1, -1);
        Check.due("12 with the love there", 60 + 6 + 80 + 6, ring.play());
        Check.due("25 together", 452, ring.gate(3));
    }

    /** Behind the 512th call answers are free, but nothing that no call names is ever thrown. */
    private static void longUse() {
        KayfabeRing ring = ring();
        for (int day = 0; day < 999; day++) {
            ring.book(day, day % 4, day % 2, 1 - day % 2, true, 60, 0);
            ring.play();
            ring.pass();
        }
        Check.due("rule 7: a record of 999 days", 999, ring.beatAnew(0, 1) + ring.beatAnew(1, 0));
        Check.isThrown("rule 7: behind the lineage", Check.INDEX, () -> ring.lineage(0, 1000, true));
    }
}
