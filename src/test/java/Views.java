/**
 * All that can be seen of a ring, as texts. Each view takes a ring of its own that was started alike, as an object
 * answers for 512 calls alone, and as what a ring hides shows only in calls that change it.
 */
final class Views {
    private static final int[] DAYS = {0, 1, 2, 3, 998, 999};

    private Views() {
    }

    interface Alike {
        /** A ring, started in the same way each time. */
        KayfabeRing ring();
    }

    static String all(Alike alike) {
        StringBuilder text = new StringBuilder();
        people(alike.ring(), text);
        records(alike.ring(), text);
        cards(alike.ring(), text);
        titles(alike.ring(), text);
        bars(alike.ring(), text);
        promos(alike.ring(), text);
        mended(alike.ring(), text);
        played(alike.ring(), text);
        more(alike.ring(), text);
        return text.toString();
    }

    private static void add(StringBuilder text, Check.Call call) {
        text.append(Check.outcome(call)).append(' ');
    }

    private static void people(KayfabeRing ring, StringBuilder text) {
        text.append("\nday and people: ");
        add(text, ring::day);
        for (int i = 0; i < 10; i++) {
            int one = i;
            for (int j = 0; j < 7; j++) {
                int what = j;
                add(text, () -> ring.ofWrestler(one, what));
            }
            for (int j = 0; j < 4; j++) {
                int town = j;
                add(text, () -> ring.love(town, one));
                add(text, () -> ring.worth(town, one));
            }
        }
    }

    private static void records(KayfabeRing ring, StringBuilder text) {
        text.append("\nrecords: ");
        for (int i = 0; i < 100; i++) {
            int one = i / 10;
            int other = i % 10;
            add(text, () -> ring.beat(one, other));
            add(text, () -> ring.beatAnew(one, other));
        }
    }

    private static void cards(KayfabeRing ring, StringBuilder text) {
        text.append("\ncards: ");
        for (int day : DAYS) {
            for (int i = 0; i < 4; i++) {
                int what = i;
                add(text, () -> ring.ofCard(day, what));
            }
            for (int i = 0; i < 36; i++) {
                int match = i / 6;
                int what = i % 6;
                add(text, () -> ring.ofMatch(day, match, what));
            }
        }
    }

    private static void titles(KayfabeRing ring, StringBuilder text) {
        text.append("\ntitles, gates and mendings: ");
        for (int i = 0; i < 4; i++) {
            int number = i;
            add(text, () -> ring.champion(number));
            add(text, () -> ring.gate(number));
            for (int j = 0; j < 8; j++) {
                int at = j / 2;
                boolean isDay = j % 2 == 1;
                add(text, () -> ring.lineage(number, at, isDay));
            }
        }
        add(text, ring::mending);
        add(text, ring::mendingAnew);
    }

    private static void bars(KayfabeRing ring, StringBuilder text) {
        text.append("\nclauses and protections: ");
        for (int i = 0; i < 100; i++) {
            int one = i / 10;
            int other = i % 10;
            add(text, () -> ring.clause(one, other, 0));
        }
        for (int i = 0; i < 10; i++) {
            int one = i;
            add(text, () -> ring.protect(one, 0));
        }
    }

    private static void promos(KayfabeRing ring, StringBuilder text) {
        text.append("\npromos: ");
        for (int i = 0; i < 10; i++) {
            int one = i;
            add(text, () -> ring.promo(3, one, 0));
        }
        add(text, ring::pass);
        for (int i = 0; i < 10; i++) {
            int one = i;
            add(text, () -> ring.promo(2, one, 0));
        }
    }

    private static void mended(KayfabeRing ring, StringBuilder text) {
        text.append("\nmended: ");
        add(text, ring::mend);
        add(text, ring::play);
        cards(ring, text);
    }

    private static void played(KayfabeRing ring, StringBuilder text) {
        text.append("\nplayed, then a day later, and played: ");
        add(text, ring::play);
        add(text, ring::pass);
        add(text, ring::play);
        people(ring, text);
        titles(ring, text);
    }

    private static void more(KayfabeRing ring, StringBuilder text) {
        text.append("\none more of each, and heads: ");
        for (int i = 0; i < 10; i++) {
            int one = i;
            add(text, () -> ring.head(one));
        }
        add(text, () -> ring.wrestler(5, 5, 0));
        add(text, ring::title);
        add(text, () -> ring.book(3, 1, 0, 1, true, 5, 0));
        add(text, () -> ring.book(999, 2, 0, 1, true, 5, 0));
        titles(ring, text);
    }
}
