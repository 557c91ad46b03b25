/** Promises 11, 26 and 27: mending. */
public final class MendPromisesTest {
    public static void main(String[] args) {
        exceptions();
        nothingOpen();
        greatestSum();
        whoCanNotCome();
        lowerNumbers();
        behindAllNumbers();
        bothPlaces();
        bars();
        struck();
        stays();
        mendAlone();
        theSecondMatch();
        Check.finish();
    }

    private static KayfabeRing ringOf(int... skills) {
        KayfabeRing ring = new KayfabeRing();
        for (int skill : skills) {
            ring.wrestler(skill, 99, KayfabeRing.FACE);
        }
        ring.title();
        return ring;
    }

    private static void book(KayfabeRing ring, int first, int second) {
        ring.book(ring.day(), 0, first, second, true, 5, -1);
    }

    private static void exceptions() {
        KayfabeRing ring = ringOf(10, 20, 30, 40, 50, 60, 70, 80, 90, 99);
        Mendings.throwAll("no card", ring);
        ring.book(1, 0, 0, 1, true, 5, -1);
        Mendings.throwAll("no card today", ring);
        ring.pass();
        ring.book(1, 0, 2, 3, true, 5, -1);
        ring.book(1, 0, 4, 5, true, 5, -1);
        for (int i = 0; i < 5; i++) {
            ring.hurt(i, 2);
        }
        Mendings.throwAll("5 open places", ring);
        Check.due("11 nothing changed", 3, ring.ofCard(1, 1));
        ring.strike(1, 2);
        Mendings.due("4 open places", ring, 99 + 90 + 80 + 70, 0, 6, 7, 8, 9);
        ring.play();
        Mendings.throwAll("played", ring);
        ring.pass();
        Mendings.throwAll("the next day", ring);
    }

    private static void nothingOpen() {
        KayfabeRing ring = ringOf(10, 20, 30);
        book(ring, 0, 1);
        ring.hurt(2, 5);
        ring.clause(1, 0, 999);
        ring.protect(1, 999);
        Mendings.due("nothing open", ring, 0, 0, 0, 1);
        ring.play();
        Check.due("12 it is played as it was booked", 1, ring.beat(0, 1));
    }

    private static void greatestSum() {
        KayfabeRing ring = ringOf(10, 20, 30, 40, 50);
        book(ring, 0, 1);
        ring.promo(0, 2, 0);
        ring.promo(1, 3, 0);
        ring.pass();
        book(ring, 0, 1);
        ring.hurt(0, 1);
        ring.hurt(4, 1);
        Mendings.due("the worth there", ring, 40, 0, 3, 1);
        Check.due("11 the same place wins", 3, ring.ofMatch(1, 0, 2));

        KayfabeRing loved = ringOf(10, 20, 30, 38);
        loved.promo(0, 2, 0);
        book(loved, 0, 1);
        loved.hurt(1, 1);
        Mendings.due("the love there", loved, 39, 0, 0, 2);
        loved.strike(0, 0);
        loved.book(0, 1, 0, 2, false, 5, -1);
        loved.hurt(2, 1);
        Mendings.due("the love elsewhere", loved, 38, 0, 0, 3);
        Check.due("11 the second place wins", 3, loved.ofMatch(0, 0, 2));
    }

    private static void whoCanNotCome() {
        KayfabeRing ring = ringOf(10, 20, 30, 40, 99);
        book(ring, 0, 1);
        book(ring, 2, 3);
        ring.hurt(0, 1);
        ring.hurt(4, 1);
        Mendings.due("nobody is there who is not hurt or on it", ring, 0, 1, 2, 3);

        KayfabeRing one = ringOf(10, 20, 30, 40, 99);
        book(one, 0, 1);
        book(one, 2, 3);
        one.hurt(1, 1);
        one.hurt(2, 1);
        Mendings.due("one comes to one place, the first of alike ways", one, 99, 1, 0, 4);

        KayfabeRing freed = ringOf(10, 20, 30, 40);
        book(freed, 0, 1);
        book(freed, 2, 3);
        freed.hurt(0, 1);
        freed.hurt(2, 1);
        Mendings.due("not from a match that is struck", freed, 0, 2);
        book(freed, 1, 3);
        Check.due("11 but behind it", 1, freed.ofCard(0, 1));
    }

    private static void lowerNumbers() {
        KayfabeRing ring = ringOf(50, 50, 50, 50, 50, 50, 50, 50);
        book(ring, 7, 6);
        book(ring, 5, 4);
        ring.hurt(6, 1);
        ring.hurt(5, 1);
        ring.hurt(0, 1);
        Mendings.due("the lower numbers at the first places", ring, 100, 0, 7, 1, 2, 4);

        KayfabeRing unlike = ringOf(30, 20, 40, 40, 1, 1, 1, 1);
        book(unlike, 7, 6);
        book(unlike, 5, 4);
        unlike.hurt(4, 1);
        unlike.hurt(7, 1);
        Mendings.due("of those who come", unlike, 80, 0, 2, 6, 5, 3);
    }

    private static void behindAllNumbers() {
        KayfabeRing ring = ringOf(50, 50, 50, 50, 50);
        book(ring, 3, 2);
        book(ring, 1, 0);
        ring.hurt(3, 1);
        ring.hurt(0, 1);
        Mendings.due("nobody behind all numbers", ring, 50, 1, 4, 2);

        KayfabeRing barred = ringOf(50, 50, 50, 50, 50);
        book(barred, 3, 2);
        book(barred, 1, 0);
        barred.hurt(3, 1);
        barred.hurt(0, 1);
        barred.clause(2, 4, 0);
        Mendings.due("nobody where one is barred", barred, 50, 1, 1, 4);
    }

    private static void bothPlaces() {
        KayfabeRing ring = ringOf(10, 20, 30, 40, 50);
        book(ring, 0, 1);
        ring.hurt(0, 1);
        ring.hurt(1, 1);
        Mendings.due("both places, the lower number first", ring, 90, 0, 3, 4);

        KayfabeRing lone = ringOf(10, 20, 99);
        book(lone, 0, 1);
        lone.hurt(0, 1);
        lone.hurt(1, 1);
        Mendings.due("one is too few for both", lone, 0, 1);

        KayfabeRing order = ringOf(10, 20, 60, 40);
        book(order, 0, 1);
        order.hurt(0, 1);
        order.hurt(1, 1);
        order.clause(3, 2, 0);
        Mendings.due("the other way round where one is barred", order, 100, 0, 3, 2);

        KayfabeRing choice = ringOf(10, 20, 30, 40, 5, 6, 50, 60);
        book(choice, 0, 1);
        book(choice, 2, 4);
        book(choice, 3, 5);
        choice.hurt(0, 1);
        choice.hurt(1, 1);
        choice.hurt(2, 1);
        choice.hurt(3, 1);
        Mendings.due("two in one match or in two", choice, 110, 2, 6, 7);
    }

    private static void bars() {
        KayfabeRing ring = ringOf(10, 20, 99, 30);
        book(ring, 0, 1);
        ring.hurt(1, 1);
        ring.protect(2, 1);
        Mendings.due("who comes is protected", ring, 30, 0, 0, 3);

        KayfabeRing clause = ringOf(10, 20, 99, 30);
        clause.pass();
        book(clause, 0, 1);
        clause.hurt(1, 1);
        clause.clause(2, 0, 1);
        clause.clause(3, 0, 0);
        Mendings.due("a clause today, and one that is over", clause, 30, 0, 0, 3);

        KayfabeRing stays = ringOf(10, 20, 99, 30);
        book(stays, 0, 1);
        stays.hurt(0, 1);
        stays.clause(1, 2, 0);
        Mendings.due("who stays has a clause", stays, 30, 0, 3, 1);

        KayfabeRing none = ringOf(10, 20, 99, 30);
        book(none, 0, 1);
        none.hurt(0, 1);
        none.protect(1, 1);
        Mendings.due("who stays is protected", none, 0, 1);

        KayfabeRing winner = ringOf(10, 20, 99, 30);
        book(winner, 0, 1);
        winner.hurt(0, 1);
        winner.protect(2, 9);
        winner.clause(2, 1, 9);
        Mendings.due("who is to win is not barred", winner, 99, 0, 2, 1);

        KayfabeRing real = ringOf(10, 20, 99, 30);
        book(real, 0, 1);
        real.shoot(0);
        real.hurt(1, 1);
        real.protect(2, 1);
        Mendings.due("a real match is booked all the same", real, 30, 0, 0, 3);
        Check.due("11 real stays", 1, real.ofMatch(0, 0, 5));
    }

    private static void struck() {
        KayfabeRing ring = ringOf(10, 20, 30, 40, 50, 60, 70, 80, 90, 99);
        for (int i = 0; i < 10; i += 2) {
            ring.book(0, 3, i, i + 1, true, i + 1, -1);
        }
        ring.hurt(0, 1);
        ring.hurt(1, 1);
        ring.hurt(5, 1);
        Mendings.due("all full: those with open places go", ring, 0, 2, 2, 3, 6, 7, 8, 9);
        Check.due("11 those behind come down", 3, ring.ofMatch(0, 0, 3));
        Check.due("11 those behind come down", 7, ring.ofMatch(0, 1, 3));
        Check.due("11 the town stays", 3, ring.ofCard(0, 0));
        ring.hurt(2, 1);
        ring.hurt(7, 1);
        ring.hurt(9, 1);
        ring.hurt(4, 1);
        Mendings.due("all struck", ring, 0, 3);
        Check.due("11 no card then", KayfabeRing.NONE, ring.ofCard(0, 0));
        Mendings.throwAll("no card then", ring);
        Check.due("11 any town then", 0, ring.book(0, 1, 3, 6, true, 1, -1));
    }

    /** Nobody asks for the sum first. */
    private static void mendAlone() {
        KayfabeRing ring = ringOf(90, 20, 30, 40);
        book(ring, 2, 3);
        ring.hurt(2, 1);
        Check.due("11 alone", 0, ring.mend());
        Check.due("11 the lowest number comes", 0, ring.ofMatch(0, 0, 0));
        ring.hurt(0, 1);
        Check.due("11 alone, once more", 0, ring.mend());
        Check.due("11 another one comes", 1, ring.ofMatch(0, 0, 0));
        ring.hurt(1, 1);
        Check.due("11 nobody is left", 1, ring.mend());
    }

    private static void theSecondMatch() {
        KayfabeRing ring = ringOf(90, 20, 30, 40, 50, 60, 70, 55);
        for (int i = 1; i < 7; i += 2) {
            book(ring, i, i + 1);
        }
        ring.hurt(4, 1);
        Mendings.due("the second one's second place", ring, 90, 0, 1, 2, 3, 0, 5, 6);
        ring.protect(6, 1);
        ring.hurt(3, 1);
        Mendings.due("the second one's first place", ring, 55, 0, 1, 2, 7, 0, 5, 6);

        KayfabeRing few = ringOf(90, 20, 30, 40, 50);
        book(few, 1, 2);
        book(few, 3, 4);
        few.hurt(3, 1);
        few.hurt(4, 1);
        Mendings.due("one is too few for both of the second one", few, 0, 1, 1, 2);

        KayfabeRing bars = ringOf(90, 20, 30, 40, 50);
        book(bars, 1, 2);
        book(bars, 3, 4);
        bars.hurt(3, 1);
        bars.protect(4, 1);
        Mendings.due("who stays in the second one is protected", bars, 0, 1, 1, 2);
    }

    private static void stays() {
        KayfabeRing ring = ringOf(10, 20, 30);
        ring.book(0, 0, 0, 1, false, 17, 0);
        ring.shoot(0);
        ring.hurt(1, 1);
        Mendings.due("title, minutes and real stay", ring, 30, 0, 0, 2);
        Check.due("11 who is to win", 2, ring.ofMatch(0, 0, 2));
        Check.due("11 minutes", 17, ring.ofMatch(0, 0, 3));
        Check.due("11 title", 0, ring.ofMatch(0, 0, 4));
        Check.due("11 real", 1, ring.ofMatch(0, 0, 5));
        Check.due("11 again: nothing open", 0, ring.mend());
    }
}
