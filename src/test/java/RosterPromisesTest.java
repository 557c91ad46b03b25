/** Promises 1 to 5: a new object and the roster. */
public final class RosterPromisesTest {
    private static final int MIN = Integer.MIN_VALUE;
    private static final int MAX = Integer.MAX_VALUE;

    public static void main(String[] args) {
        promise1();
        promise2();
        promise3();
        promise4();
        promise5();
        Check.finish();
    }

    private static KayfabeRing ringOf(int wrestlers) {
        KayfabeRing ring = new KayfabeRing();
        for (int i = 0; i < wrestlers; i++) {
            ring.wrestler(10 * i, 50, i % 2);
        }
        return ring;
    }

    private static void promise1() {
        KayfabeRing ring = new KayfabeRing();
        Check.due("1 day", 0, ring.day());
        Check.isThrown("1 no wrestler", Check.INDEX, () -> ring.ofWrestler(0, 0));
        Check.isThrown("1 no title", Check.INDEX, () -> ring.champion(0));
        for (int day = 0; day <= 999; day++) {
            Check.due("1 town", KayfabeRing.NONE, ring.ofCard(day, 0));
            Check.due("1 matches", 0, ring.ofCard(day, 1));
            Check.due("1 minutes", 0, ring.ofCard(day, 2));
            Check.due("1 played", 0, ring.ofCard(day, 3));
        }
        for (int town = 0; town < 4; town++) {
            Check.due("1 gate", 0, ring.gate(town));
        }
        KayfabeRing used = ringOf(2);
        used.title();
        used.book(0, 0, 0, 1, true, 5, 0);
        used.play();
        used.pass();
        Check.due("1 another object stays new", 0, new KayfabeRing().wrestler(1, 1, 1));
        Check.isThrown("1 another object has no titles", Check.INDEX, () -> new KayfabeRing().champion(0));
    }

    private static void promise2() {
        KayfabeRing ring = new KayfabeRing();
        int[][] wrong = {{-1, 0, 0}, {100, 0, 0}, {0, -1, 0}, {0, 100, 0}, {0, 0, -1}, {0, 0, 2},
            {MIN, 0, 0}, {MAX, 0, 0}, {0, MIN, 0}, {0, MAX, 0}, {0, 0, MIN}, {0, 0, MAX}};
        for (int[] w : wrong) {
            Check.isThrown("2 out of range", Check.ARGUMENT, () -> ring.wrestler(w[0], w[1], w[2]));
        }
        Check.due("2 least", 0, ring.wrestler(0, 0, KayfabeRing.FACE));
        Check.due("2 most", 1, ring.wrestler(99, 99, KayfabeRing.HEEL));
        Check.due("2 role", 0, ring.ofWrestler(0, 0));
        Check.due("2 role", 1, ring.ofWrestler(1, 0));
        Check.due("2 skill", 1, ring.worth(0, 0));
        Check.due("2 skill", 99, ring.worth(3, 1));
        for (int what = 1; what <= 6; what++) {
            Check.due("2 nothing yet", 0, ring.ofWrestler(1, what));
        }
        for (int i = 2; i < 10; i++) {
            Check.due("2 number", i, ring.wrestler(i, i, 0));
        }
        Check.isThrown("2 there are 10", Check.STATE, () -> ring.wrestler(1, 1, 1));
        Check.isThrown("2 which first", Check.ARGUMENT, () -> ring.wrestler(100, 1, 1));
        Check.due("2 mic", 9, ring.promo(0, 9, 0) + ring.promo(0, 1, 0) + 18);
    }

    private static void promise3() {
        KayfabeRing ring = ringOf(2);
        for (int i = 0; i < 4; i++) {
            Check.due("3 number", i, ring.title());
            Check.due("3 vacant", KayfabeRing.NONE, ring.champion(i));
            int title = i;
            Check.isThrown("3 no lineage", Check.INDEX, () -> ring.lineage(title, 0, true));
        }
        Check.isThrown("3 there are 4", Check.STATE, ring::title);
        Check.isThrown("3 still 4", Check.INDEX, () -> ring.champion(4));
    }

    private static void promise4() {
        KayfabeRing ring = ringOf(3);
        int[][] nobody = {{-1, 0}, {0, -1}, {3, 0}, {0, 3}, {MIN, 0}, {0, MAX}, {3, 3}};
        for (int[] n : nobody) {
            Check.isThrown("4 no such wrestler", Check.INDEX, () -> ring.clause(n[0], n[1], 5));
            Check.isThrown("4 which first", Check.INDEX, () -> ring.clause(n[0], n[1], 1000));
        }
        for (int until : new int[] {-2, 1000, MIN, MAX}) {
            Check.isThrown("4 until", Check.ARGUMENT, () -> ring.clause(0, 1, until));
        }
        Check.isThrown("4 the same", Check.ARGUMENT, () -> ring.clause(1, 1, 5));
        Check.due("4 none before", -1, ring.clause(0, 1, 5));
        Check.due("4 one a pair", -1, ring.clause(1, 0, 999));
        Check.due("4 one a pair", -1, ring.clause(0, 2, 0));
        Check.due("4 the one before", 5, ring.clause(0, 1, 6));
        Check.due("4 in place of it", 6, ring.clause(0, 1, 5));
        Check.isThrown("4 bars on its last day", Check.STATE, () -> ring.book(5, 0, 1, 0, true, 9, -1));
        Check.due("4 bars the loser alone", 0, ring.book(4, 0, 0, 2, true, 9, -1));
        Check.due("4 not against another", 0, ring.book(3, 0, 0, 2, false, 9, -1));
        Check.due("4 not behind its last day", 0, ring.book(6, 0, 0, 1, false, 9, -1));
        Check.isThrown("4 bars today", Check.STATE, () -> ring.book(0, 0, 0, 2, false, 9, -1));
        Check.due("4 none again", 0, ring.clause(0, 2, -1));
        Check.due("4 none bars nothing", 0, ring.book(0, 0, 0, 2, false, 9, -1));
        Check.due("4 what is booked stays", 5, ring.clause(0, 1, 999));
        Check.due("4 what is booked stays", 1, ring.ofCard(6, 1));
    }

    private static void promise5() {
        KayfabeRing ring = ringOf(3);
        for (int wrestler : new int[] {-1, 3, MIN, MAX}) {
            Check.isThrown("5 no such wrestler", Check.INDEX, () -> ring.protect(wrestler, 5));
            Check.isThrown("5 which first", Check.INDEX, () -> ring.protect(wrestler, 1000));
        }
        for (int day : new int[] {-1, 1000, MIN, MAX}) {
            Check.isThrown("5 day", Check.ARGUMENT, () -> ring.protect(0, day));
        }
        Check.due("5 none before", 0, ring.protect(0, 5));
        Check.due("5 the one before", 5, ring.protect(0, 7));
        Check.isThrown("5 bars ahead of the day", Check.STATE, () -> ring.book(6, 0, 0, 1, false, 9, -1));
        Check.isThrown("5 against whomever", Check.STATE, () -> ring.book(6, 0, 2, 0, true, 9, -1));
        Check.due("5 not the winner", 0, ring.book(6, 0, 0, 1, true, 9, -1));
        Check.due("5 not on the day", 0, ring.book(7, 0, 0, 1, false, 9, -1));
        Check.due("5 none again", 7, ring.protect(0, 0));
        Check.due("5 bars nothing", 0, ring.book(0, 0, 0, 1, false, 9, -1));
        Check.due("5 the last day", 0, ring.protect(0, 999));
        Check.due("5 the last day", 0, ring.book(999, 0, 0, 1, false, 9, -1));
        Check.isThrown("5 ahead of the last day", Check.STATE, () -> ring.book(998, 0, 0, 1, false, 9, -1));
    }
}
