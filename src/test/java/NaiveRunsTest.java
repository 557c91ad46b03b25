import java.util.Random;

/** Many made-up runs of calls, on the program and on the naive ring, each answer or exception compared. */
public final class NaiveRunsTest {
    private static final int RUNS = 1500;
    private static final int CALLS = 500;
    private static final int[] EDGES = {Integer.MIN_VALUE, -1000, -2, -1, 0, 1, 3, 4, 5, 6, 7, 9, 10, 11, 59, 60, 61,
        99, 100, 119, 120, 121, 199, 200, 201, 998, 999, 1000, 10000, Integer.MAX_VALUE};

    private final Random luck;
    private final KayfabeRing ring = new KayfabeRing();
    private final NaiveRing naive = new NaiveRing();
    private final int run;
    private int calls = 0;

    private NaiveRunsTest(int run) {
        this.run = run;
        luck = new Random(run);
    }

    public static void main(String[] args) {
        for (int run = 0; run < RUNS; run++) {
            new NaiveRunsTest(run).play();
        }
        Check.finish();
    }

    private void same(String call, Check.Call ours, Check.Call theirs) {
        calls++;
        Check.due("run " + run + ", call " + calls + ": " + call, Check.outcome(theirs), Check.outcome(ours));
    }

    /** Mostly a number that is in range, at times any. */
    private int some(int least, int most) {
        if (luck.nextInt(60) == 0) {
            return EDGES[luck.nextInt(EDGES.length)];
        }
        if (luck.nextInt(60) == 0) {
            return luck.nextBoolean() ? least - 1 : most + 1;
        }
        return least + luck.nextInt(Math.max(1, most - least + 1));
    }

    private int body() {
        return some(0, Math.max(0, naive.bodies.size() - 1));
    }

    private int near() {
        return luck.nextInt(3) != 0 ? naive.day : some(naive.day, naive.day + 3);
    }

    private void play() {
        int bodies = luck.nextInt(4) == 0 ? luck.nextInt(11) : 10;
        for (int i = 0; i < bodies; i++) {
            addBody();
        }
        int titles = luck.nextInt(5);
        for (int i = 0; i < titles; i++) {
            same("title()", ring::title, naive::title);
        }
        boolean isRough = luck.nextBoolean();
        while (calls < CALLS) {
            act(isRough);
            if (luck.nextInt(4) == 0) {
                look();
            }
        }
        if (run % 10 == 0) {
            lookAtAll();
        }
    }

    private void addBody() {
        int skill = luck.nextInt(3) == 0 ? some(0, 5) : some(0, 99);
        int mic = luck.nextInt(3) == 0 ? some(80, 99) : some(0, 99);
        int role = some(0, 1);
        same("wrestler(" + skill + ", " + mic + ", " + role + ")",
            () -> ring.wrestler(skill, mic, role), () -> naive.wrestler(skill, mic, role));
    }

    private void act(boolean isRough) {
        int kind = luck.nextInt(100);
        if (kind < 34) {
            book();
        } else if (kind < 46) {
            same("play()", ring::play, naive::play);
        } else if (kind < 60) {
            promo();
        } else if (kind < 70) {
            same("pass()", ring::pass, naive::pass);
        } else if (kind < 75) {
            int match = some(0, 4);
            same("shoot(" + match + ")", () -> ring.shoot(match) ? 1 : 0, () -> naive.shoot(match));
        } else if (kind < 84) {
            harm(isRough);
        } else if (kind < 91) {
            mend();
        } else if (kind < 96) {
            bar();
        } else if (kind < 97) {
            same("title()", ring::title, naive::title);
        } else if (kind < 98) {
            addBody();
        } else {
            int day = near();
            int match = some(0, 3);
            same("strike(" + day + ", " + match + ")", () -> ring.strike(day, match), () -> naive.strike(day, match));
        }
    }

    private void book() {
        int day = near();
        int town = luck.nextInt(4) != 0 ? day & 3 : some(0, 3);
        int first = body();
        int second = body();
        boolean isFirst = luck.nextBoolean();
        int minutes = luck.nextInt(5) == 0 ? some(1, 60) : some(1, 20);
        int title = luck.nextInt(2) == 0 ? -1 : some(0, Math.max(0, naive.lines.size() - 1));
        same("book(" + day + ", " + town + ", " + first + ", " + second + ", " + isFirst + ", " + minutes + ", "
            + title + ")", () -> ring.book(day, town, first, second, isFirst, minutes, title),
            () -> naive.book(day, town, first, second, isFirst, minutes, title));
    }

    private void promo() {
        int town = luck.nextInt(2) + 2 * (run & 1);
        int anyTown = luck.nextInt(5) == 0 ? some(0, 3) : town;
        int one = body();
        int slips = luck.nextInt(2) == 0 ? 0 : some(0, 9);
        same("promo(" + anyTown + ", " + one + ", " + slips + ")",
            () -> ring.promo(anyTown, one, slips), () -> naive.promo(anyTown, one, slips));
    }

    private void harm(boolean isRough) {
        int one = body();
        if (luck.nextInt(4) == 0) {
            same("head(" + one + ")", () -> ring.head(one), () -> naive.head(one));
            return;
        }
        int days = isRough ? some(1, 200) : luck.nextInt(10) == 0 ? some(58, 63) : some(1, 3);
        same("hurt(" + one + ", " + days + ")", () -> ring.hurt(one, days), () -> naive.hurt(one, days));
    }

    private void mend() {
        if (luck.nextBoolean()) {
            same("mending()", ring::mending, naive::mending);
        }
        if (luck.nextBoolean()) {
            same("mendingAnew()", ring::mendingAnew, naive::mending);
        }
        if (luck.nextInt(3) != 0) {
            same("mend()", ring::mend, naive::mend);
            lookAtCard(naive.day);
        }
    }

    private void bar() {
        int one = body();
        if (luck.nextInt(3) == 0) {
            int day = luck.nextInt(3) == 0 ? some(0, 999) : Math.min(999, naive.day + luck.nextInt(4));
            same("protect(" + one + ", " + day + ")", () -> ring.protect(one, day), () -> naive.protect(one, day));
            return;
        }
        int other = body();
        int until = luck.nextInt(3) == 0 ? some(-1, 999) : Math.min(999, naive.day - 1 + luck.nextInt(6));
        same("clause(" + one + ", " + other + ", " + until + ")",
            () -> ring.clause(one, other, until), () -> naive.clause(one, other, until));
    }

    private void look() {
        int one = body();
        int other = body();
        int town = some(0, 3);
        int what = some(0, 6);
        int day = some(0, naive.day + 2);
        int at = some(0, 3);
        switch (luck.nextInt(9)) {
            case 0 -> same("ofWrestler(" + one + ", " + what + ")",
                () -> ring.ofWrestler(one, what), () -> naive.ofWrestler(one, what));
            case 1 -> same("love(" + town + ", " + one + ")", () -> ring.love(town, one), () -> naive.love(town, one));
            case 2 -> same("worth(" + town + ", " + one + ")",
                () -> ring.worth(town, one), () -> naive.worth(town, one));
            case 3 -> same("ofCard(" + day + ", " + what + ")",
                () -> ring.ofCard(day, what), () -> naive.ofCard(day, what));
            case 4 -> same("ofMatch(" + day + ", " + at + ", " + what + ")",
                () -> ring.ofMatch(day, at, what), () -> naive.ofMatch(day, at, what));
            case 5 -> same("lineage(" + town + ", " + at + ", " + (what > 3) + ")",
                () -> ring.lineage(town, at, what > 3), () -> naive.lineage(town, at, what > 3));
            case 6 -> same("champion(" + town + ")", () -> ring.champion(town), () -> naive.champion(town));
            case 7 -> same("beat(" + one + ", " + other + ")",
                () -> ring.beat(one, other), () -> naive.beat(one, other));
            default -> same("beatAnew(" + one + ", " + other + ")",
                () -> ring.beatAnew(one, other), () -> naive.beat(one, other));
        }
    }

    private void lookAtCard(int day) {
        for (int what = 0; what < 4; what++) {
            int which = what;
            same("ofCard(" + day + ", " + which + ")",
                () -> ring.ofCard(day, which), () -> naive.ofCard(day, which));
        }
        for (int match = 0; match < 7; match++) {
            for (int what = 0; what < 6; what++) {
                int number = match;
                int which = what;
                same("ofMatch(" + day + ", " + number + ", " + which + ")",
                    () -> ring.ofMatch(day, number, which), () -> naive.ofMatch(day, number, which));
            }
        }
    }

    private void lookAtAll() {
        same("day()", ring::day, () -> naive.day);
        for (int day = 0; day <= Math.min(999, naive.day + 5); day++) {
            lookAtCard(day);
        }
        for (int i = 0; i < naive.bodies.size(); i++) {
            lookAtBody(i);
        }
        for (int i = 0; i < naive.lines.size(); i++) {
            int title = i;
            for (int j = 0; j <= naive.lines.get(i).size(); j++) {
                int at = j;
                same("lineage(" + title + ", " + at + ", true)",
                    () -> ring.lineage(title, at, true), () -> naive.lineage(title, at, true));
                same("lineage(" + title + ", " + at + ", false)",
                    () -> ring.lineage(title, at, false), () -> naive.lineage(title, at, false));
            }
        }
        for (int i = 0; i < 4; i++) {
            int town = i;
            same("gate(" + town + ")", () -> ring.gate(town), () -> naive.gate(town));
        }
    }

    private void lookAtBody(int one) {
        for (int i = 0; i < 10; i++) {
            int other = i;
            same("ofWrestler(" + one + ", " + other + ")",
                () -> ring.ofWrestler(one, other), () -> naive.ofWrestler(one, other));
            same("beat(" + one + ", " + other + ")", () -> ring.beat(one, other), () -> naive.beat(one, other));
            same("beatAnew(" + one + ", " + other + ")",
                () -> ring.beatAnew(one, other), () -> naive.beat(one, other));
            same("worth(" + other + ", " + one + ")", () -> ring.worth(other, one), () -> naive.worth(other, one));
            same("love(" + other + ", " + one + ")", () -> ring.love(other, one), () -> naive.love(other, one));
        }
    }
}
