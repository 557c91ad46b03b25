/** Rings in the states in which the refused calls and the questions are made. */
final class States {
    private States() {
    }

    /** All ten and all four; day 1: champions, clauses, a protection, promos, cards of today and of later days. */
    static KayfabeRing booked() {
        KayfabeRing ring = new KayfabeRing();
        for (int i = 0; i < 10; i++) {
            ring.wrestler(11 * i, 99 - 8 * i, i % 2);
        }
        for (int i = 0; i < 4; i++) {
            ring.title();
        }
        ring.book(0, 1, 0, 1, true, 20, 0);
        ring.book(0, 1, 2, 3, false, 30, 1);
        ring.play();
        ring.pass();
        ring.clause(4, 5, 500);
        ring.clause(9, 8, 0);
        ring.protect(6, 400);
        ring.book(1, 2, 0, 2, true, 60, 0);
        ring.book(1, 2, 4, 5, true, 40, 2);
        ring.book(1, 2, 6, 1, true, 15, Stage.NONE);
        ring.shoot(1);
        ring.book(2, 3, 3, 8, false, 15, 1);
        ring.book(999, 0, 1, 9, true, 60, 3);
        ring.promo(0, 7, 2);
        ring.promo(1, 1, 0);
        ring.hurt(8, 1);
        return ring;
    }

    static KayfabeRing open() {
        KayfabeRing ring = booked();
        ring.hurt(5, 9);
        ring.head(0);
        return ring;
    }

    static KayfabeRing fiveOpen() {
        KayfabeRing ring = open();
        ring.hurt(1, 200);
        ring.hurt(2, 2);
        ring.hurt(4, 1);
        return ring;
    }

    static KayfabeRing played() {
        KayfabeRing ring = booked();
        ring.play();
        return ring;
    }

    static KayfabeRing nextDay() {
        KayfabeRing ring = played();
        ring.strike(2, 0);
        ring.pass();
        return ring;
    }

    static KayfabeRing lastDay() {
        KayfabeRing ring = Stage.passTo(booked(), 999);
        ring.hurt(0, 5);
        return ring;
    }
}
