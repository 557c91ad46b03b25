/** Rings to start from, and days that go by in one call, for the tests of the edges. */
final class Stage {
    static final int NONE = KayfabeRing.NONE;
    static final int FACE = KayfabeRing.FACE;
    static final int HEEL = KayfabeRing.HEEL;
    static final int MIN = Integer.MIN_VALUE;
    static final int MAX = Integer.MAX_VALUE;

    interface Start {
        KayfabeRing ring();
    }

    interface Use {
        int answer(KayfabeRing ring);
    }

    interface UseOf {
        int answer(KayfabeRing ring, int number);
    }

    private Stage() {
    }

    /** Faces of mic 99 with these skills. */
    static KayfabeRing ofSkills(int... skills) {
        KayfabeRing ring = new KayfabeRing();
        for (int skill : skills) {
            ring.wrestler(skill, 99, FACE);
        }
        return ring;
    }

    /** Wrestlers of skill 50 and mic 99 with these roles. */
    static KayfabeRing ofRoles(int... roles) {
        KayfabeRing ring = new KayfabeRing();
        for (int role : roles) {
            ring.wrestler(50, 99, role);
        }
        return ring;
    }

    /** So many faces and so many titles. */
    static KayfabeRing ofSize(int wrestlers, int titles) {
        KayfabeRing ring = ofRoles(new int[wrestlers]);
        for (int i = 0; i < titles; i++) {
            ring.title();
        }
        return ring;
    }

    static KayfabeRing passTo(KayfabeRing ring, int day) {
        while (ring.day() < day) {
            ring.pass();
        }
        return ring;
    }

    static int book(KayfabeRing ring, int first, int second) {
        return ring.book(ring.day(), 0, first, second, true, 1, NONE);
    }

    /** Plays a match of today that the first one wins. */
    static int play(KayfabeRing ring, int town, int first, int second, int minutes, int title) {
        ring.book(ring.day(), town, first, second, true, minutes, title);
        return ring.play();
    }

    /** Days with a match each that the first one wins. */
    static void playDays(KayfabeRing ring, int days, int town, int first, int second) {
        for (int i = 0; i < days; i++) {
            play(ring, town, first, second, 1, NONE);
            ring.pass();
        }
    }

    /** A day on which the winner takes the title. */
    static void crown(KayfabeRing ring, int winner, int loser, int title) {
        play(ring, 0, winner, loser, 1, title);
        ring.pass();
    }

    /** A promo a day, of a mic of 99, till the love there has that size: above 0 for a face, below for a heel. */
    static void promote(KayfabeRing ring, int town, int wrestler, int size) {
        while (Math.abs(ring.love(town, wrestler)) < size) {
            int left = size - Math.abs(ring.love(town, wrestler));
            ring.promo(town, wrestler, 9 - Math.min(9, left));
            ring.pass();
        }
    }
}
