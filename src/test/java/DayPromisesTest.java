/** Promises 9, 10, 13, 14, 15 and 16: injuries, promos and days. */
public final class DayPromisesTest {
    private static final int MIN = Integer.MIN_VALUE;
    private static final int MAX = Integer.MAX_VALUE;

    public static void main(String[] args) {
        promise9();
        promise10();
        promise13();
        promise13Turns();
        promises14And15();
        promise16();
        Check.finish();
    }

    private static KayfabeRing ring() {
        KayfabeRing ring = new KayfabeRing();
        ring.wrestler(50, 99, KayfabeRing.FACE);
        ring.wrestler(60, 99, KayfabeRing.HEEL);
        ring.wrestler(70, 39, KayfabeRing.FACE);
        for (int i = 0; i < 4; i++) {
            ring.title();
        }
        return ring;
    }

    /** Makes the first wrestler champion of some titles. */
    private static void crown(KayfabeRing ring, int title) {
        int day = ring.day();
        ring.book(day, 0, 0, 1, true, 1, title);
        ring.play();
        ring.pass();
    }

    private static void promise9() {
        KayfabeRing ring = ring();
        for (int wrestler : new int[] {-1, 3, MIN, MAX}) {
            Check.isThrown("9 no such wrestler", Check.INDEX, () -> ring.hurt(wrestler, 5));
            Check.isThrown("9 which first", Check.INDEX, () -> ring.hurt(wrestler, 0));
        }
        for (int days : new int[] {0, 201, -1, MIN, MAX}) {
            Check.isThrown("9 days", Check.ARGUMENT, () -> ring.hurt(0, days));
        }
        Check.due("9 nothing changed", 0, ring.ofWrestler(0, 2));
        Check.due("9 least", 1, ring.hurt(2, 1));
        Check.due("9 most", 200, ring.hurt(2, 200));
        Check.due("9 for longer already", 200, ring.hurt(2, 199));
        ring.pass();
        Check.due("9 from the present day on", 201, ring.hurt(2, 200));
        crown(ring, 3);
        crown(ring, 1);
        int day = ring.day();
        Check.due("9 60 days", day + 60, ring.hurt(0, 60));
        Check.due("9 still the champion", 0, ring.champion(1));
        Check.due("9 61 days", day + 61, ring.hurt(0, 61));
        Check.due("9 vacant", KayfabeRing.NONE, ring.champion(1));
        Check.due("9 all of them", KayfabeRing.NONE, ring.champion(3));
        Check.due("9 told in the lineage", KayfabeRing.NONE, ring.lineage(1, 1, false));
        Check.due("9 at once", day, ring.lineage(1, 1, true));
        Check.due("9 told in the lineage", KayfabeRing.NONE, ring.lineage(3, 1, false));
        Check.due("9 again", day + 100, ring.hurt(0, 100));
        Check.isThrown("9 vacant once", Check.INDEX, () -> ring.lineage(1, 2, false));
        Check.isThrown("9 never held", Check.INDEX, () -> ring.lineage(0, 0, false));
    }

    private static void promise10() {
        KayfabeRing ring = ring();
        for (int wrestler : new int[] {-1, 3, MIN, MAX}) {
            Check.isThrown("10 no such wrestler", Check.INDEX, () -> ring.head(wrestler));
        }
        crown(ring, 2);
        Check.due("10 first", 31, ring.head(0));
        Check.due("10 another one's first", 31, ring.head(1));
        Check.due("10 second", 61, ring.head(0));
        Check.due("10 still the champion", 0, ring.champion(2));
        Check.due("10 third", KayfabeRing.FOREVER, ring.head(0));
        Check.due("10 vacant", KayfabeRing.NONE, ring.champion(2));
        Check.due("10 fourth", KayfabeRing.FOREVER, ring.head(0));
        Check.due("10 heads", 4, ring.ofWrestler(0, 3));
        Check.due("10 hurt for good stays", KayfabeRing.FOREVER, ring.hurt(0, 200));
        Check.due("10 for longer already", 81, ring.hurt(1, 80));
        Check.due("10 for longer already", 81, ring.head(1));
        Check.due("10 counts all the same", 2, ring.ofWrestler(1, 3));
        Check.due("10 third at once", KayfabeRing.FOREVER, ring.head(1));
        Check.due("10 hurt() is no head", 0, ring.ofWrestler(2, 3));
    }

    private static void promise13() {
        KayfabeRing ring = ring();
        int[][] nothing = {{-1, 0}, {4, 0}, {0, -1}, {0, 3}, {MIN, 0}, {0, MAX}};
        ring.hurt(2, 1);
        for (int[] n : nothing) {
            Check.isThrown("13 no such town or wrestler", Check.INDEX, () -> ring.promo(n[0], n[1], 0));
            Check.isThrown("13 which first", Check.INDEX, () -> ring.promo(n[0], n[1], 10));
        }
        for (int slips : new int[] {-1, 10, MIN, MAX}) {
            Check.isThrown("13 slips", Check.ARGUMENT, () -> ring.promo(0, 2, slips));
        }
        Check.isThrown("13 hurt", Check.STATE, () -> ring.promo(0, 2, 0));
        Check.due("13 more for a face", 9, ring.promo(1, 0, 0));
        Check.due("13 there alone", 0, ring.love(0, 0));
        Check.isThrown("13 one a day, in all towns", Check.STATE, () -> ring.promo(2, 0, 0));
        Check.isThrown("13 which first", Check.ARGUMENT, () -> ring.promo(2, 0, 10));
        Check.due("13 less for a heel, less what slips", -2, ring.promo(3, 1, 7));
        ring.pass();
        Check.due("13 the next day", 18, ring.promo(1, 0, 0));
        Check.due("13 the mic divided by 10, not hurt any more", 3, ring.promo(0, 2, 0));
        Check.due("13 all slips", -2, ring.promo(3, 1, 9));
        ring.pass();
        Check.due("13 at least 0", 3, ring.promo(0, 2, 9));
        for (int i = 0; i < 9; i++) {
            ring.promo(1, 0, 0);
            ring.pass();
        }
        Check.due("13 held within 99", 99, ring.promo(1, 0, 0));
    }

    /** A promo makes a face more loved and a heel more hated: that turns neither. */
    private static void promise13Turns() {
        KayfabeRing ring = new KayfabeRing();
        ring.wrestler(5, 99, KayfabeRing.FACE);
        ring.wrestler(5, 99, KayfabeRing.HEEL);
        for (int day = 0; day < 5; day++) {
            ring.promo(0, 0, 0);
            ring.promo(0, 1, 0);
            ring.pass();
        }
        Check.due("13 love below 50", 45, ring.love(0, 0));
        for (int day = 0; day < 6; day++) {
            ring.promo(1, 0, 0);
            ring.promo(1, 1, 0);
            ring.pass();
        }
        Check.due("13 hate of one town of 50", -54, ring.love(1, 1));
        Check.due("13 not turned by one town", KayfabeRing.HEEL, ring.ofWrestler(1, 0));
        Check.due("13 a face is not turned by love", KayfabeRing.FACE, ring.ofWrestler(0, 0));
        ring.promo(0, 0, 5);
        ring.promo(0, 1, 5);
        Check.due("13 49 is not 50", -49, ring.love(0, 1));
        ring.pass();
        ring.promo(0, 0, 8);
        ring.promo(0, 1, 8);
        Check.due("13 a heel is not turned by hate", KayfabeRing.HEEL, ring.ofWrestler(1, 0));
        Check.due("13 two towns of 50", 50, ring.love(0, 0));
        Check.due("13 a face stays one", KayfabeRing.FACE, ring.ofWrestler(0, 0));
    }

    private static void promises14And15() {
        KayfabeRing ring = ring();
        ring.book(0, 0, 0, 1, true, 15, -1);
        ring.play();
        ring.book(1, 0, 0, 1, true, 15, -1);
        Check.due("15 day", 0, ring.day());
        Check.due("14 the day then", 1, ring.pass());
        Check.due("15 day", 1, ring.day());
        Check.due("14 strain less by 10", 5, ring.ofWrestler(0, 1));
        Check.due("14 of each", 5, ring.ofWrestler(1, 1));
        Check.due("14 tomorrow's card is there", 1, ring.ofCard(1, 1));
        Check.due("14 then", 2, ring.pass());
        Check.due("14 strain at least 0", 0, ring.ofWrestler(0, 1));
        Check.due("14 what was not played is gone", 0, ring.ofCard(1, 1));
        Check.due("14 what was played is there", 1, ring.ofCard(0, 1));
        for (int day = 3; day <= 999; day++) {
            Check.due("14 day", day, ring.pass());
        }
        Check.isThrown("14 the last day", Check.STATE, ring::pass);
        Check.due("15 the last day", 999, ring.day());
        Check.due("6 a card on the last day", 0, ring.book(999, 0, 0, 1, true, 15, -1));
        Check.due("9 ahead of a day behind the last", 1199, ring.hurt(0, 200));
    }

    private static void promise16() {
        KayfabeRing ring = ring();
        for (int wrestler : new int[] {-1, 3, MIN, MAX}) {
            Check.isThrown("16 no such wrestler", Check.INDEX, () -> ring.ofWrestler(wrestler, 0));
            Check.isThrown("16 which first", Check.INDEX, () -> ring.ofWrestler(wrestler, 7));
        }
        for (int what : new int[] {-1, 7, MIN, MAX}) {
            Check.isThrown("16 what", Check.ARGUMENT, () -> ring.ofWrestler(0, what));
        }
        ring.book(0, 0, 0, 1, false, 30, -1);
        ring.play();
        ring.pass();
        ring.book(1, 0, 0, 1, true, 30, -1);
        ring.shoot(0);
        ring.play();
        told(ring, 0, new int[] {0, 50, 0, 0, 0, 1, 1});
        told(ring, 1, new int[] {1, 50, 0, 0, 1, 0, 1});
        told(ring, 2, new int[] {0, 0, 0, 0, 0, 0, 0});
        ring.hurt(0, 2);
        ring.head(1);
        Check.due("16 hurt", 3, ring.ofWrestler(0, 2));
        Check.due("16 heads", 1, ring.ofWrestler(1, 3));
        ring.pass();
        Check.due("16 hurt on the day ahead of it", 3, ring.ofWrestler(0, 2));
        ring.pass();
        Check.due("16 not hurt now", 0, ring.ofWrestler(0, 2));
        ring.head(1);
        ring.head(1);
        Check.due("16 for good", KayfabeRing.FOREVER, ring.ofWrestler(1, 2));
    }

    private static void told(KayfabeRing ring, int wrestler, int[] want) {
        for (int what = 0; what < want.length; what++) {
            Check.due("16 what " + what, want[what], ring.ofWrestler(wrestler, what));
        }
    }
}
