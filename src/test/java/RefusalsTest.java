/**
 * "A call that throws an exception changes nothing. If several exceptions apply, the one that is named first in the
 * throws clause is thrown." Each refused call is made on rings in several states, between two looks at all of them.
 */
public final class RefusalsTest {
    private static final int MIN = Stage.MIN;
    private static final int MAX = Stage.MAX;
    private static final int[] NO_TOWNS = {-1, 4, MIN, MAX};
    private static final int[] NO_WRESTLERS = {-1, 10, MIN, MAX};
    private static final int[] NO_MATCHES = {-1, 5, MIN, MAX};

    private final String state;
    private final Views.Alike alike;
    private final String want;

    private RefusalsTest(String state, Views.Alike alike) {
        this.state = state;
        this.alike = alike;
        want = Views.all(alike);
    }

    public static void main(String[] args) {
        RefusalsTest[] states = {
            new RefusalsTest("booked", States::booked), new RefusalsTest("open places", States::open),
            new RefusalsTest("five open places", States::fiveOpen),
            new RefusalsTest("played", States::played), new RefusalsTest("the next day", States::nextDay),
        };
        for (RefusalsTest test : states) {
            test.roster();
            test.bookings();
            test.cards();
            test.bodies();
            test.questions();
        }
        states[0].booksOfState();
        states[1].mendsAndPlays(false, true);
        states[2].mendsAndPlays(true, true);
        states[3].mendsAndPlays(true, true);
        states[4].mendsAndPlays(true, true);
        states[3].closed();
        new RefusalsTest("the last day", States::lastDay).pass();
        emptyAndHalf();
        Check.finish();
    }

    private void refused(String what, String exception, Stage.Use call) {
        Check.isThrown(state + ": " + what, exception, () -> call.answer(alike.ring()));
        Check.due(state + ", nothing changed by " + what, want, Views.all(() -> {
            KayfabeRing ring = alike.ring();
            Check.outcome(() -> call.answer(ring));
            return ring;
        }));
    }

    private void roster() {
        refused("2 skill below", Check.ARGUMENT, ring -> ring.wrestler(-1, 0, 0));
        refused("2 skill above", Check.ARGUMENT, ring -> ring.wrestler(100, 0, 0));
        refused("2 mic below", Check.ARGUMENT, ring -> ring.wrestler(0, -1, 0));
        refused("2 mic above", Check.ARGUMENT, ring -> ring.wrestler(0, 100, 0));
        refused("2 role below", Check.ARGUMENT, ring -> ring.wrestler(0, 0, -1));
        refused("2 role above", Check.ARGUMENT, ring -> ring.wrestler(0, 0, 2));
        refused("2 an eleventh", Check.STATE, ring -> ring.wrestler(99, 99, 1));
        refused("3 a fifth", Check.STATE, ring -> ring.title());
        refused("4 the same", Check.ARGUMENT, ring -> ring.clause(4, 4, 5));
        refused("4 until below", Check.ARGUMENT, ring -> ring.clause(4, 5, -2));
        refused("4 until above", Check.ARGUMENT, ring -> ring.clause(4, 5, 1000));
        refused("5 day below", Check.ARGUMENT, ring -> ring.protect(6, -1));
        refused("5 day above", Check.ARGUMENT, ring -> ring.protect(6, 1000));
        for (int nobody : NO_WRESTLERS) {
            refused("4 no such one", Check.INDEX, ring -> ring.clause(nobody, 5, 3));
            refused("4 no such other", Check.INDEX, ring -> ring.clause(5, nobody, 3));
            refused("4 none of both, the same", Check.INDEX, ring -> ring.clause(nobody, nobody, 3));
            refused("4 no such one, until above", Check.INDEX, ring -> ring.clause(nobody, 5, 1000));
            refused("5 no such one", Check.INDEX, ring -> ring.protect(nobody, 3));
            refused("5 no such one, day above", Check.INDEX, ring -> ring.protect(nobody, 1000));
        }
    }

    /** What there is not ahead of what is out of range, that ahead of what the cards do not allow. */
    private void bookings() {
        int[][] nothing = {{-1, 0, 2, 0}, {4, 0, 2, 0}, {0, -1, 2, 0}, {0, 10, 2, 0}, {0, 0, -1, 0}, {0, 0, 10, 0},
            {0, 0, 2, -2}, {0, 0, 2, 4}, {0, -1, -1, 0}, {MIN, MAX, MIN, MAX}};
        int[][] days = {{3, 5}, {1, 5}, {-1, 5}, {1000, 5}, {3, 0}, {3, 61}, {MIN, MAX}};
        for (int[] n : nothing) {
            for (int[] d : days) {
                refused("6 nothing such on " + d[0] + " for " + d[1], Check.INDEX,
                    ring -> ring.book(d[0], n[0], n[1], n[2], true, d[1], n[3]));
            }
        }
        for (int i = 2; i < days.length; i++) {
            int[] d = days[i];
            refused("6 out of range", Check.ARGUMENT, ring -> ring.book(d[0], 0, 7, 8, true, d[1], 0));
            refused("6 out of range, the champion is neither", Check.ARGUMENT,
                ring -> ring.book(d[0], 3, 7, 8, false, d[1], 0));
        }
        refused("6 a day that is over", Check.ARGUMENT, ring -> ring.book(0, 1, 7, 8, true, 5, 3));
        refused("6 the same", Check.ARGUMENT, ring -> ring.book(1, 2, 7, 7, true, 5, 3));
        refused("6 the same, in another town", Check.ARGUMENT, ring -> ring.book(1, 0, 2, 2, true, 60, 0));
    }

    /** Each reason alone, on the card of today in town 2, or on another day. */
    private void booksOfState() {
        refused("6 another town", Check.STATE, ring -> ring.book(1, 1, 7, 9, true, 5, 3));
        refused("6 121 minutes", Check.STATE, ring -> ring.book(1, 2, 7, 9, true, 6, 3));
        refused("6 the first is on it", Check.STATE, ring -> ring.book(1, 2, 4, 9, true, 5, 3));
        refused("6 the second is on it", Check.STATE, ring -> ring.book(1, 2, 7, 4, true, 5, 3));
        refused("6 the title is on it", Check.STATE, ring -> ring.book(1, 2, 7, 9, true, 5, 2));
        refused("6 the first is hurt", Check.STATE, ring -> ring.book(1, 2, 8, 9, true, 5, 3));
        refused("6 the second is hurt", Check.STATE, ring -> ring.book(1, 2, 7, 8, true, 5, 3));
        refused("6 the champion is neither", Check.STATE, ring -> ring.book(1, 2, 7, 9, true, 5, 1));
        refused("6 the first has a clause", Check.STATE, ring -> ring.book(500, 2, 4, 5, false, 5, 3));
        refused("6 the second has a clause", Check.STATE, ring -> ring.book(500, 2, 5, 4, true, 5, 3));
        refused("6 the first is protected", Check.STATE, ring -> ring.book(399, 2, 6, 9, false, 5, 3));
        refused("6 the second is protected", Check.STATE, ring -> ring.book(399, 2, 9, 6, true, 5, 3));
        Check.due("6 else it is booked", 3, States.booked().book(1, 2, 7, 9, true, 5, 3));
        Check.due("6 else it is booked", 0, States.booked().book(501, 2, 4, 5, false, 5, 3));
        Check.due("6 else it is booked", 0, States.booked().book(400, 2, 6, 9, false, 5, 3));
    }

    private void cards() {
        int[] days = {0, 1, 2, 3, 999};
        for (int none : NO_MATCHES) {
            for (int day : days) {
                refused("7 no such match", Check.INDEX, ring -> ring.strike(day, none));
                refused("20 no such match", Check.INDEX, ring -> ring.ofMatch(day, none, 0));
                refused("20 no such match, what above", Check.INDEX, ring -> ring.ofMatch(day, none, 6));
            }
            refused("8 no such match", Check.INDEX, ring -> ring.shoot(none) ? 1 : 0);
        }
        for (int day : new int[] {-1, 3, 998, 1000, MIN, MAX}) {
            refused("7 no such day's match", Check.INDEX, ring -> ring.strike(day, 0));
            refused("20 no such day's match", Check.INDEX, ring -> ring.ofMatch(day, 0, 0));
        }
        refused("7 played", Check.STATE, ring -> ring.strike(0, 0));
        refused("7 played", Check.STATE, ring -> ring.strike(0, 1));
        refused("7 no such match of one that is played", Check.INDEX, ring -> ring.strike(0, 2));
    }

    private void bodies() {
        int[][] wrong = {{0, -1}, {0, 10}, {7, 10}, {8, -1}, {8, MIN}, {1, MAX}};
        for (int[] w : wrong) {
            refused("13 slips", Check.ARGUMENT, ring -> ring.promo(0, w[0], w[1]));
        }
        for (int days : new int[] {0, 201, -1, MIN, MAX}) {
            refused("9 days", Check.ARGUMENT, ring -> ring.hurt(0, days));
        }
        for (int nobody : NO_WRESTLERS) {
            refused("9 no such one", Check.INDEX, ring -> ring.hurt(nobody, 61));
            refused("9 no such one, no days", Check.INDEX, ring -> ring.hurt(nobody, 0));
            refused("10 no such one", Check.INDEX, ring -> ring.head(nobody));
            refused("13 no such one", Check.INDEX, ring -> ring.promo(0, nobody, 0));
            refused("13 no such one, slips above", Check.INDEX, ring -> ring.promo(0, nobody, 10));
        }
        for (int nowhere : NO_TOWNS) {
            refused("13 no such town", Check.INDEX, ring -> ring.promo(nowhere, 0, 0));
            refused("13 no such town, slips above", Check.INDEX, ring -> ring.promo(nowhere, 0, 10));
            refused("13 no such town, hurt", Check.INDEX, ring -> ring.promo(nowhere, 8, 0));
        }
    }

    private void questions() {
        for (int nobody : NO_WRESTLERS) {
            refused("16 no such one", Check.INDEX, ring -> ring.ofWrestler(nobody, 0));
            refused("16 no such one, what above", Check.INDEX, ring -> ring.ofWrestler(nobody, 7));
            refused("17 no such one", Check.INDEX, ring -> ring.love(0, nobody));
            refused("18 no such one", Check.INDEX, ring -> ring.worth(0, nobody));
            refused("23 no such one", Check.INDEX, ring -> ring.beat(nobody, 0));
            refused("23 no such other", Check.INDEX, ring -> ring.beat(0, nobody));
            refused("24 no such one", Check.INDEX, ring -> ring.beatAnew(nobody, 0));
            refused("24 no such other", Check.INDEX, ring -> ring.beatAnew(0, nobody));
        }
        for (int nowhere : NO_TOWNS) {
            refused("17 no such town", Check.INDEX, ring -> ring.love(nowhere, 0));
            refused("18 no such town", Check.INDEX, ring -> ring.worth(nowhere, 0));
            refused("22 no such title", Check.INDEX, ring -> ring.champion(nowhere));
            refused("21 no such title", Check.INDEX, ring -> ring.lineage(nowhere, 0, true));
            refused("25 no such town", Check.INDEX, ring -> ring.gate(nowhere));
        }
        refused("16 what", Check.ARGUMENT, ring -> ring.ofWrestler(0, 7));
        refused("16 what", Check.ARGUMENT, ring -> ring.ofWrestler(9, -1));
        refused("19 day", Check.ARGUMENT, ring -> ring.ofCard(-1, 0));
        refused("19 day", Check.ARGUMENT, ring -> ring.ofCard(1000, 4));
        refused("19 what", Check.ARGUMENT, ring -> ring.ofCard(1, 4));
        refused("19 what", Check.ARGUMENT, ring -> ring.ofCard(1, -1));
        refused("20 what", Check.ARGUMENT, ring -> ring.ofMatch(0, 0, 6));
        refused("20 what", Check.ARGUMENT, ring -> ring.ofMatch(0, 0, -1));
        refused("21 ahead of the first", Check.INDEX, ring -> ring.lineage(0, -1, false));
        refused("21 behind the last", Check.INDEX, ring -> ring.lineage(1, 1, true));
    }

    private void mendsAndPlays(boolean isNoMending, boolean isNoPlay) {
        if (isNoMending) {
            refused("11", Check.STATE, KayfabeRing::mend);
            refused("26", Check.STATE, KayfabeRing::mending);
            refused("27", Check.STATE, KayfabeRing::mendingAnew);
        }
        if (isNoPlay) {
            refused("12", Check.STATE, KayfabeRing::play);
        }
    }

    private void closed() {
        refused("6 played", Check.STATE, ring -> ring.book(1, 2, 7, 9, true, 5, 3));
        refused("6 played, in another town", Check.STATE, ring -> ring.book(1, 0, 7, 9, true, 60, 3));
        refused("6 played, too many minutes", Check.ARGUMENT, ring -> ring.book(1, 2, 7, 9, true, 61, 3));
        refused("7 played", Check.STATE, ring -> ring.strike(1, 2));
        refused("7 played, no such match", Check.INDEX, ring -> ring.strike(1, 3));
        refused("8 played", Check.STATE, ring -> ring.shoot(0) ? 1 : 0);
        refused("8 played and real", Check.STATE, ring -> ring.shoot(1) ? 1 : 0);
        refused("8 played, no such match", Check.INDEX, ring -> ring.shoot(3) ? 1 : 0);
        refused("13 hurt", Check.STATE, ring -> ring.promo(0, 8, 0));
        refused("13 said one today", Check.STATE, ring -> ring.promo(2, 7, 0));
    }

    private void pass() {
        refused("14", Check.STATE, KayfabeRing::pass);
        refused("14 days that are over", Check.ARGUMENT, ring -> ring.book(998, 0, 1, 2, true, 5, -1));
        refused("13 hurt", Check.STATE, ring -> ring.promo(0, 0, 0));
        refused("6 its title is on it", Check.STATE, ring -> ring.book(999, 0, 2, 3, true, 5, 3));
        refused("7 it has one match", Check.INDEX, ring -> ring.strike(999, 1));
    }

    /** Rings with nobody, and with two wrestlers alone. */
    private static void emptyAndHalf() {
        RefusalsTest empty = new RefusalsTest("empty", KayfabeRing::new);
        empty.refused("2 skill", Check.ARGUMENT, ring -> ring.wrestler(100, 0, 0));
        empty.refused("6 nobody", Check.INDEX, ring -> ring.book(0, 0, 0, 1, true, 5, Stage.NONE));
        empty.refused("9 nobody", Check.INDEX, ring -> ring.hurt(0, 1));
        empty.refused("10 nobody", Check.INDEX, ring -> ring.head(0));
        empty.refused("13 nobody", Check.INDEX, ring -> ring.promo(0, 0, 0));
        empty.refused("22 no title", Check.INDEX, ring -> ring.champion(0));
        empty.mendsAndPlays(true, true);
        RefusalsTest half = new RefusalsTest("two alone", () -> Stage.ofSize(2, 0));
        half.refused("2 role", Check.ARGUMENT, ring -> ring.wrestler(0, 0, 2));
        half.refused("4 no third", Check.INDEX, ring -> ring.clause(0, 2, 5));
        half.refused("4 the same", Check.ARGUMENT, ring -> ring.clause(1, 1, 5));
        half.refused("6 no third", Check.INDEX, ring -> ring.book(0, 0, 2, 1, true, 5, Stage.NONE));
        half.refused("6 no title", Check.INDEX, ring -> ring.book(0, 0, 0, 1, true, 5, 0));
        half.mendsAndPlays(true, true);
    }
}
