/** Promises 6 to 8, 19 and 20: cards and their matches. */
public final class CardPromisesTest {
    private static final int MIN = Integer.MIN_VALUE;
    private static final int MAX = Integer.MAX_VALUE;

    public static void main(String[] args) {
        promise6Arguments();
        promise6Cards();
        promise6Bars();
        promise7();
        promise8();
        promise19();
        promise20();
        Check.finish();
    }

    private static KayfabeRing ring() {
        KayfabeRing ring = new KayfabeRing();
        for (int i = 0; i < 10; i++) {
            ring.wrestler(10 * i, 50, i % 2);
        }
        ring.title();
        ring.title();
        return ring;
    }

    private static void promise6Arguments() {
        KayfabeRing ring = ring();
        int[][] nothing = {{-1, 0, 1, -1}, {4, 0, 1, -1}, {0, -1, 1, -1}, {0, 10, 1, -1}, {0, 0, -1, -1},
            {0, 0, 10, -1}, {0, 0, 1, -2}, {0, 0, 1, 2}, {MIN, 0, 1, -1}, {0, MAX, 1, -1}, {0, 0, 1, MIN},
            {0, 0, 1, MAX}, {0, 10, 10, -1}};
        for (int[] n : nothing) {
            Check.isThrown("6 nothing such", Check.INDEX, () -> ring.book(0, n[0], n[1], n[2], true, 9, n[3]));
            Check.isThrown("6 which first", Check.INDEX, () -> ring.book(-1, n[0], n[1], n[2], true, 0, n[3]));
        }
        int[][] wrong = {{-1, 9, 1}, {1000, 9, 1}, {0, 0, 1}, {0, 61, 1}, {0, 9, 0}, {MIN, 9, 1}, {MAX, 9, 1},
            {0, MIN, 1}, {0, MAX, 1}};
        for (int[] w : wrong) {
            Check.isThrown("6 out of range", Check.ARGUMENT, () -> ring.book(w[0], 0, 0, w[2], true, w[1], -1));
        }
        ring.hurt(0, 5);
        for (int[] w : wrong) {
            Check.isThrown("6 which first", Check.ARGUMENT, () -> ring.book(w[0], 0, 0, w[2], true, w[1], -1));
        }
        ring.pass();
        Check.isThrown("6 a day that is over", Check.ARGUMENT, () -> ring.book(0, 0, 1, 2, true, 9, -1));
        Check.due("6 the present day", 0, ring.book(1, 3, 1, 2, true, 1, -1));
        Check.due("6 the last day", 0, ring.book(999, 0, 1, 2, true, 60, -1));
        Check.due("6 one a day is free", 1, ring.book(999, 0, 0, 3, true, 60, -1));
    }

    private static void promise6Cards() {
        KayfabeRing ring = ring();
        Check.due("6 first", 0, ring.book(0, 1, 0, 1, true, 60, 0));
        Check.isThrown("6 another town", Check.STATE, () -> ring.book(0, 2, 2, 3, true, 9, -1));
        Check.isThrown("6 on it", Check.STATE, () -> ring.book(0, 1, 0, 3, true, 9, -1));
        Check.isThrown("6 on it", Check.STATE, () -> ring.book(0, 1, 3, 1, true, 9, -1));
        Check.isThrown("6 the title is on it", Check.STATE, () -> ring.book(0, 1, 2, 3, true, 9, 0));
        Check.due("6 another title", 1, ring.book(0, 1, 2, 3, false, 59, 1));
        Check.isThrown("6 more than 120 minutes", Check.STATE, () -> ring.book(0, 1, 4, 5, true, 2, -1));
        Check.due("6 120 minutes, two without a title", 2, ring.book(0, 1, 4, 5, true, 1, -1));
        Check.isThrown("6 no minutes left", Check.STATE, () -> ring.book(0, 1, 6, 7, true, 1, -1));
        Check.due("6 another day", 0, ring.book(1, 2, 0, 1, true, 60, 0));

        KayfabeRing full = new KayfabeRing();
        for (int i = 0; i < 10; i++) {
            full.wrestler(1, 1, 0);
        }
        for (int i = 0; i < 5; i++) {
            Check.due("6 number", i, full.book(7, 0, 2 * i, 2 * i + 1, true, 1, -1));
        }
        Check.due("6 all ten", 5, full.ofCard(7, 1));
        Check.isThrown("6 everybody is on it", Check.STATE, () -> full.book(7, 0, 8, 9, true, 1, -1));

        ring.play();
        Check.isThrown("6 played", Check.STATE, () -> ring.book(0, 1, 6, 7, true, 1, -1));
        Check.due("6 nothing changed", 3, ring.ofCard(0, 1));
        ring.pass();
        ring.play();
        Check.isThrown("6 played, with room left", Check.STATE, () -> ring.book(1, 2, 6, 7, true, 1, -1));
    }

    private static void promise6Bars() {
        KayfabeRing ring = ring();
        ring.hurt(0, 3);
        Check.isThrown("6 hurt on that day", Check.STATE, () -> ring.book(2, 0, 0, 1, true, 9, -1));
        Check.isThrown("6 hurt on that day", Check.STATE, () -> ring.book(0, 0, 1, 0, true, 9, -1));
        Check.due("6 not hurt then", 0, ring.book(3, 0, 1, 0, true, 9, -1));
        for (int i = 0; i < 3; i++) {
            ring.head(2);
        }
        Check.isThrown("6 hurt for good", Check.STATE, () -> ring.book(999, 0, 1, 2, true, 9, -1));

        ring.book(0, 0, 3, 4, true, 9, 0);
        ring.play();
        ring.pass();
        Check.isThrown("6 the champion is neither", Check.STATE, () -> ring.book(1, 0, 4, 5, true, 9, 0));
        Check.due("6 a vacant title", 0, ring.book(1, 0, 4, 5, true, 9, 1));
        Check.due("6 the champion is the second", 0, ring.book(2, 0, 4, 3, true, 9, 0));
        Check.due("6 the champion is the first", 0, ring.book(4, 0, 3, 4, true, 9, 0));
        ring.clause(6, 7, 5);
        Check.isThrown("6 a clause", Check.STATE, () -> ring.book(5, 0, 6, 7, false, 9, -1));
        Check.isThrown("6 a clause", Check.STATE, () -> ring.book(5, 0, 7, 6, true, 9, -1));
        Check.due("6 behind the clause", 0, ring.book(6, 0, 6, 7, false, 9, -1));
        ring.protect(8, 5);
        Check.isThrown("6 a protection", Check.STATE, () -> ring.book(4, 0, 8, 9, false, 9, -1));
        Check.due("6 on its day", 0, ring.book(5, 0, 8, 9, false, 9, -1));
        Check.isThrown("6 nothing is made by one that throws", Check.INDEX, () -> ring.ofMatch(4, 1, 0));
    }

    private static void promise7() {
        KayfabeRing ring = ring();
        ring.book(3, 1, 0, 1, true, 10, 0);
        ring.book(3, 1, 2, 3, true, 20, -1);
        ring.book(3, 1, 4, 5, false, 30, 1);
        int[][] nothing = {{3, 3}, {3, -1}, {2, 0}, {-1, 0}, {1000, 0}, {MIN, MIN}, {MAX, MAX}, {3, MAX}};
        for (int[] n : nothing) {
            Check.isThrown("7 no such match", Check.INDEX, () -> ring.strike(n[0], n[1]));
        }
        Check.due("7 how many then", 2, ring.strike(3, 1));
        Check.due("7 the one ahead stays", 0, ring.ofMatch(3, 0, 0));
        Check.due("7 those behind come down", 4, ring.ofMatch(3, 1, 0));
        Check.due("7 whole", 30, ring.ofMatch(3, 1, 3));
        Check.due("7 whole", 5, ring.ofMatch(3, 1, 2));
        Check.due("7 whole", 1, ring.ofMatch(3, 1, 4));
        Check.due("7 its minutes are free", 40, ring.ofCard(3, 2));
        Check.due("7 both are free", 2, ring.book(3, 1, 3, 2, true, 20, -1));
        Check.due("7 the first", 2, ring.strike(3, 0));
        Check.due("7 the last", 1, ring.strike(3, 1));
        Check.due("7 all", 0, ring.strike(3, 0));
        Check.isThrown("7 none left", Check.INDEX, () -> ring.strike(3, 0));
        Check.due("7 any town again", 0, ring.book(3, 2, 0, 1, true, 10, 0));

        ring.book(0, 0, 0, 1, true, 10, -1);
        ring.shoot(0);
        ring.strike(0, 0);
        ring.book(0, 0, 0, 1, true, 10, -1);
        Check.due("7 what is booked anew is not real", 0, ring.ofMatch(0, 0, 5));
        ring.play();
        Check.isThrown("7 played", Check.STATE, () -> ring.strike(0, 0));
        Check.isThrown("7 which first", Check.INDEX, () -> ring.strike(0, 1));
        ring.pass();
        Check.isThrown("7 played on a day that is over", Check.STATE, () -> ring.strike(0, 0));
        ring.book(1, 0, 0, 1, true, 10, -1);
        ring.pass();
        Check.isThrown("7 not played on a day that is over", Check.INDEX, () -> ring.strike(1, 0));
    }

    private static void promise8() {
        KayfabeRing ring = ring();
        Check.isThrown("8 no card", Check.INDEX, () -> ring.shoot(0) ? 1 : 0);
        ring.book(0, 1, 0, 1, true, 10, 0);
        ring.book(0, 1, 2, 3, true, 10, -1);
        ring.book(1, 1, 2, 3, true, 10, -1);
        for (int match : new int[] {-1, 2, MIN, MAX}) {
            Check.isThrown("8 no such match", Check.INDEX, () -> ring.shoot(match) ? 1 : 0);
        }
        Check.due("8 was not", 0, ring.shoot(1) ? 1 : 0);
        Check.due("8 was", 1, ring.shoot(1) ? 1 : 0);
        Check.due("8 is real", 1, ring.ofMatch(0, 1, 5));
        Check.due("8 not another one", 0, ring.ofMatch(0, 0, 5));
        Check.due("8 not another day's", 0, ring.ofMatch(1, 0, 5));
        Check.due("8 still to win", 2, ring.ofMatch(0, 1, 2));
        ring.strike(0, 0);
        Check.due("8 comes down with it", 1, ring.ofMatch(0, 0, 5));
        ring.play();
        Check.isThrown("8 played", Check.STATE, () -> ring.shoot(0) ? 1 : 0);
        Check.isThrown("8 which first", Check.INDEX, () -> ring.shoot(1) ? 1 : 0);
    }

    private static void promise19() {
        KayfabeRing ring = ring();
        for (int day : new int[] {-1, 1000, MIN, MAX}) {
            Check.isThrown("19 day", Check.ARGUMENT, () -> ring.ofCard(day, 0));
        }
        for (int what : new int[] {-1, 4, MIN, MAX}) {
            Check.isThrown("19 what", Check.ARGUMENT, () -> ring.ofCard(0, what));
        }
        ring.book(0, 2, 0, 1, true, 10, -1);
        ring.book(0, 2, 2, 3, true, 15, -1);
        ring.book(999, 3, 2, 3, true, 60, -1);
        card(ring, 0, 2, 2, 25, 0);
        card(ring, 1, -1, 0, 0, 0);
        card(ring, 999, 3, 1, 60, 0);
        ring.play();
        card(ring, 0, 2, 2, 25, 1);
        ring.pass();
        card(ring, 0, 2, 2, 25, 1);
        ring.book(1, 1, 0, 1, true, 10, -1);
        card(ring, 1, 1, 1, 10, 0);
        ring.pass();
        card(ring, 1, -1, 0, 0, 0);
    }

    private static void card(KayfabeRing ring, int day, int town, int matches, int minutes, int played) {
        Check.due("19 town", town, ring.ofCard(day, 0));
        Check.due("19 matches", matches, ring.ofCard(day, 1));
        Check.due("19 minutes", minutes, ring.ofCard(day, 2));
        Check.due("19 played", played, ring.ofCard(day, 3));
    }

    private static void promise20() {
        KayfabeRing ring = ring();
        Check.isThrown("20 no match", Check.INDEX, () -> ring.ofMatch(0, 0, 0));
        ring.book(0, 2, 4, 1, true, 10, -1);
        ring.book(0, 2, 2, 3, false, 15, 1);
        int[][] nothing = {{0, 2}, {0, -1}, {1, 0}, {-1, 0}, {1000, 0}, {MIN, MIN}, {MAX, MAX}};
        for (int[] n : nothing) {
            Check.isThrown("20 no such match", Check.INDEX, () -> ring.ofMatch(n[0], n[1], 0));
            Check.isThrown("20 which first", Check.INDEX, () -> ring.ofMatch(n[0], n[1], 6));
        }
        for (int what : new int[] {-1, 6, MIN, MAX}) {
            Check.isThrown("20 what", Check.ARGUMENT, () -> ring.ofMatch(0, 0, what));
        }
        match(ring, 0, 0, new int[] {4, 1, 4, 10, -1, 0});
        match(ring, 0, 1, new int[] {2, 3, 3, 15, 1, 0});
        ring.shoot(1);
        match(ring, 0, 1, new int[] {2, 3, 3, 15, 1, 1});
        ring.play();
        match(ring, 0, 0, new int[] {4, 1, 4, 10, -1, 0});
        match(ring, 0, 1, new int[] {2, 3, -1, 15, 1, 1});
        ring.pass();
        match(ring, 0, 1, new int[] {2, 3, -1, 15, 1, 1});
        ring.book(1, 2, 2, 3, false, 15, 1);
        ring.pass();
        Check.isThrown("20 gone with its day", Check.INDEX, () -> ring.ofMatch(1, 0, 0));
    }

    private static void match(KayfabeRing ring, int day, int match, int[] want) {
        for (int what = 0; what < want.length; what++) {
            Check.due("20 what " + what, want[what], ring.ofMatch(day, match, what));
        }
    }
}
