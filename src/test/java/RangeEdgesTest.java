/** Each range of a parameter: all values that are allowed, and the first ones on both sides that are refused. */
public final class RangeEdgesTest {
    public static void main(String[] args) {
        rosterArguments();
        cardArguments();
        whats();
        towns();
        for (int count : new int[] {0, 1, 2, 9, 10}) {
            wrestlers(count);
            if (count != 1) {
                pairs(count);
            }
        }
        for (int count : new int[] {0, 1, 3, 4}) {
            titles(count);
        }
        for (int count = 0; count <= 5; count++) {
            matches(count);
        }
        lineages();
        Check.finish();
    }

    private static void range(String what, String exception, int least, int most, Stage.Start start,
            Stage.UseOf use) {
        for (int number = least; number <= most; number++) {
            KayfabeRing ring = start.ring();
            int allowed = number;
            Check.isAllowed(what + " " + allowed, () -> use.answer(ring, allowed));
        }
        for (int refused : new int[] {least - 1, most + 1, Stage.MIN, Stage.MAX}) {
            KayfabeRing ring = start.ring();
            Check.isThrown(what + " " + refused, exception, () -> use.answer(ring, refused));
        }
    }

    /** On rings with two wrestlers and a title. */
    private static void argument(String what, int least, int most, Stage.UseOf use) {
        range(what, Check.ARGUMENT, least, most, () -> Stage.ofSize(2, 1), use);
    }

    private static void rosterArguments() {
        argument("2 skill", 0, 99, (ring, n) -> ring.wrestler(n, 0, 0));
        argument("2 mic", 0, 99, (ring, n) -> ring.wrestler(0, n, 0));
        argument("2 role", 0, 1, (ring, n) -> ring.wrestler(0, 0, n));
        argument("4 until", -1, 999, (ring, n) -> ring.clause(0, 1, n));
        argument("5 day", 0, 999, (ring, n) -> ring.protect(0, n));
        argument("9 days", 1, 200, (ring, n) -> ring.hurt(0, n));
        argument("13 slips", 0, 9, (ring, n) -> ring.promo(0, 0, n));
    }

    private static void cardArguments() {
        argument("6 day", 0, 999, (ring, n) -> ring.book(n, 0, 0, 1, true, 1, 0));
        argument("6 minutes", 1, 60, (ring, n) -> ring.book(0, 0, 0, 1, true, n, 0));
        range("6 the present day or a later one", Check.ARGUMENT, 5, 999,
            () -> Stage.passTo(Stage.ofSize(2, 1), 5), (ring, n) -> ring.book(n, 0, 0, 1, true, 1, 0));
        range("6 on the last day", Check.ARGUMENT, 999, 999,
            () -> Stage.passTo(Stage.ofSize(2, 1), 999), (ring, n) -> ring.book(n, 0, 0, 1, true, 1, 0));
        argument("19 day", 0, 999, (ring, n) -> ring.ofCard(n, 0));
        range("19 day, on the last one", Check.ARGUMENT, 0, 999,
            () -> Stage.passTo(new KayfabeRing(), 999), (ring, n) -> ring.ofCard(n, 3));
    }

    private static void whats() {
        argument("16 what", 0, 6, (ring, n) -> ring.ofWrestler(0, n));
        argument("19 what", 0, 3, (ring, n) -> ring.ofCard(0, n));
        argument("19 what, of the last day", 0, 3, (ring, n) -> ring.ofCard(999, n));
        range("19 what, of a card", Check.ARGUMENT, 0, 3, () -> cardOf(1, 0), (ring, n) -> ring.ofCard(0, n));
        range("20 what", Check.ARGUMENT, 0, 5, () -> cardOf(1, 0), (ring, n) -> ring.ofMatch(0, 0, n));
    }

    /** So many matches on a day. */
    private static KayfabeRing cardOf(int matches, int day) {
        KayfabeRing ring = Stage.ofSize(10, 0);
        for (int i = 0; i < matches; i++) {
            ring.book(day, 0, 2 * i, 2 * i + 1, true, 1, Stage.NONE);
        }
        return ring;
    }

    private static void towns() {
        Stage.Start start = () -> Stage.ofSize(2, 0);
        range("6 town", Check.INDEX, 0, 3, start, (ring, n) -> ring.book(0, n, 0, 1, true, 1, -1));
        range("13 town", Check.INDEX, 0, 3, start, (ring, n) -> ring.promo(n, 0, 0));
        range("17 town", Check.INDEX, 0, 3, start, (ring, n) -> ring.love(n, 0));
        range("18 town", Check.INDEX, 0, 3, start, (ring, n) -> ring.worth(n, 0));
        range("25 town", Check.INDEX, 0, 3, start, (ring, n) -> ring.gate(n));
        range("25 town, without wrestlers", Check.INDEX, 0, 3, KayfabeRing::new, (ring, n) -> ring.gate(n));
    }

    private static void wrestlers(int count) {
        wrestler("5 of " + count, count, (ring, n) -> ring.protect(n, 1));
        wrestler("9 of " + count, count, (ring, n) -> ring.hurt(n, 1));
        wrestler("10 of " + count, count, (ring, n) -> ring.head(n));
        wrestler("13 of " + count, count, (ring, n) -> ring.promo(0, n, 0));
        wrestler("16 of " + count, count, (ring, n) -> ring.ofWrestler(n, 0));
        wrestler("17 of " + count, count, (ring, n) -> ring.love(0, n));
        wrestler("18 of " + count, count, (ring, n) -> ring.worth(0, n));
        wrestler("23 both of " + count, count, (ring, n) -> ring.beat(n, n));
        wrestler("24 both of " + count, count, (ring, n) -> ring.beatAnew(n, n));
    }

    private static void wrestler(String what, int count, Stage.UseOf use) {
        range(what, Check.INDEX, 0, count - 1, () -> Stage.ofSize(count, 0), use);
    }

    /** Each one of both alone is such that there is none. */
    private static void pairs(int count) {
        wrestler("4 the one of " + count, count, (ring, n) -> ring.clause(n, facing(n), 1));
        wrestler("4 the other of " + count, count, (ring, n) -> ring.clause(facing(n), n, 1));
        wrestler("6 the first of " + count, count, (ring, n) -> ring.book(0, 0, n, facing(n), true, 1, -1));
        wrestler("6 the second of " + count, count, (ring, n) -> ring.book(0, 0, facing(n), n, true, 1, -1));
        wrestler("23 the one of " + count, count, (ring, n) -> ring.beat(n, facing(n)));
        wrestler("23 the other of " + count, count, (ring, n) -> ring.beat(facing(n), n));
        wrestler("24 the one of " + count, count, (ring, n) -> ring.beatAnew(n, facing(n)));
        wrestler("24 the other of " + count, count, (ring, n) -> ring.beatAnew(facing(n), n));
    }

    private static int facing(int wrestler) {
        return wrestler == 0 ? 1 : 0;
    }

    private static void titles(int count) {
        Stage.Start start = () -> Stage.ofSize(2, count);
        range("22 of " + count, Check.INDEX, 0, count - 1, start, (ring, n) -> ring.champion(n));
        range("6 title or NONE, of " + count, Check.INDEX, -1, count - 1, start,
            (ring, n) -> ring.book(0, 0, 0, 1, true, 1, n));
        range("21 title of " + count, Check.INDEX, 0, count - 1, () -> {
            KayfabeRing ring = Stage.ofSize(2, count);
            for (int title = 0; title < count; title++) {
                Stage.crown(ring, 0, 1, title);
            }
            return ring;
        }, (ring, n) -> ring.lineage(n, 0, true));
    }

    private static void matches(int count) {
        range("7 today's of " + count, Check.INDEX, 0, count - 1, () -> cardOf(count, 0),
            (ring, n) -> ring.strike(0, n));
        range("7 another day's of " + count, Check.INDEX, 0, count - 1, () -> cardOf(count, 999),
            (ring, n) -> ring.strike(999, n));
        range("8 of " + count, Check.INDEX, 0, count - 1, () -> cardOf(count, 0),
            (ring, n) -> ring.shoot(n) ? 1 : 0);
        range("20 today's of " + count, Check.INDEX, 0, count - 1, () -> cardOf(count, 0),
            (ring, n) -> ring.ofMatch(0, n, 0));
        range("20 another day's of " + count, Check.INDEX, 0, count - 1, () -> cardOf(count, 999),
            (ring, n) -> ring.ofMatch(999, n, 0));
        range("8 not another day's", Check.INDEX, 0, -1, () -> cardOf(count, 1),
            (ring, n) -> ring.shoot(n) ? 1 : 0);
        range("7 the day of a match", Check.INDEX, 5, count == 0 ? 4 : 5, () -> cardOf(count, 5),
            (ring, n) -> ring.strike(n, 0));
        range("20 the day of a match", Check.INDEX, 5, count == 0 ? 4 : 5, () -> cardOf(count, 5),
            (ring, n) -> ring.ofMatch(n, 0, 0));
    }

    /** The lineage of title 1 has none, one, or one by a win and one by an injury, more. */
    private static void lineages() {
        for (int length = 0; length <= 4; length++) {
            int most = length - 1;
            Stage.Start start = () -> lineageOf(most + 1);
            range("21 champion, of " + length, Check.INDEX, 0, most, start, (ring, n) -> ring.lineage(1, n, false));
            range("21 day, of " + length, Check.INDEX, 0, most, start, (ring, n) -> ring.lineage(1, n, true));
            range("21 another one's", Check.INDEX, 0, -1, start, (ring, n) -> ring.lineage(0, n, true));
        }
    }

    private static KayfabeRing lineageOf(int length) {
        KayfabeRing ring = Stage.ofSize(5, 2);
        for (int i = 0; i < length; i++) {
            if (i % 2 == 0) {
                Stage.crown(ring, i, i + 1, 1);
            } else {
                ring.hurt(i - 1, 61);
            }
        }
        return ring;
    }
}
