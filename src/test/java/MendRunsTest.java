import java.util.Random;

/** Many made-up cards of today, each mended once, on the program and on the naive ring. */
public final class MendRunsTest {
    private static final int CARDS = 6000;

    private final Random luck;
    private final int run;
    private final KayfabeRing ring = new KayfabeRing();
    private final NaiveRing naive = new NaiveRing();
    private int bodies = 0;

    private MendRunsTest(int run) {
        this.run = run;
        luck = new Random(run);
    }

    public static void main(String[] args) {
        for (int run = 0; run < CARDS; run++) {
            new MendRunsTest(run).mendOne();
        }
        Check.finish();
    }

    private void mendOne() {
        int spread = luck.nextBoolean() ? 3 : 90;
        bodies = 2 + luck.nextInt(9);
        for (int i = 0; i < bodies; i++) {
            int skill = 5 + luck.nextInt(spread);
            ring.wrestler(skill, 0, i % 2);
            naive.wrestler(skill, 0, i % 2);
        }
        bookSome();
        barSome();
        int hurt = luck.nextInt(6);
        for (int i = 0; i < hurt; i++) {
            int one = luck.nextInt(bodies);
            ring.hurt(one, 1);
            naive.hurt(one, 1);
        }
        same("mending()", ring::mending, naive::mending);
        same("mendingAnew()", ring::mendingAnew, naive::mending);
        same("mend()", ring::mend, naive::mend);
        for (int match = 0; match < 5; match++) {
            for (int what = 0; what < 6; what++) {
                int number = match;
                int which = what;
                same("ofMatch(0, " + number + ", " + which + ")",
                    () -> ring.ofMatch(0, number, which), () -> naive.ofMatch(0, number, which));
            }
        }
    }

    private void bookSome() {
        int[] order = new int[bodies];
        for (int i = 0; i < bodies; i++) {
            int at = luck.nextInt(i + 1);
            order[i] = order[at];
            order[at] = i;
        }
        int matches = 1 + luck.nextInt(bodies / 2);
        for (int i = 0; i < matches; i++) {
            boolean isFirst = luck.nextBoolean();
            ring.book(0, 1, order[2 * i], order[2 * i + 1], isFirst, i + 1, -1);
            naive.book(0, 1, order[2 * i], order[2 * i + 1], isFirst, i + 1, -1);
        }
    }

    private void barSome() {
        int clauses = luck.nextInt(4) * luck.nextInt(8);
        for (int i = 0; i < clauses; i++) {
            int one = luck.nextInt(bodies);
            int other = luck.nextInt(bodies);
            if (one != other) {
                ring.clause(one, other, 0);
                naive.clause(one, other, 0);
            }
        }
        int protections = luck.nextInt(3);
        for (int i = 0; i < protections; i++) {
            int one = luck.nextInt(bodies);
            ring.protect(one, 1);
            naive.protect(one, 1);
        }
    }

    private void same(String call, Check.Call ours, Check.Call theirs) {
        Check.due("card " + run + ": " + call, Check.outcome(theirs), Check.outcome(ours));
    }
}
