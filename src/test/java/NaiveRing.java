import java.util.ArrayList;
import java.util.Arrays;
import java.util.List;
import java.util.TreeMap;

/** The document once more, in the plainest words and with other data, to compare the program's answers with. */
final class NaiveRing {
    static final class Bout {
        int[] who;
        int winnerPlace;
        int minutes;
        int title;
        boolean real;
    }

    static final class Show {
        int town;
        boolean played;
        List<Bout> bouts = new ArrayList<>();
    }

    static final class Body {
        int skill, mic, role, strain, hurtTo, heads, safe;
        int promoOn = -1;
        int[] love = new int[4];
        TreeMap<Integer, Integer> clauses = new TreeMap<>();
    }

    final List<Body> bodies = new ArrayList<>();
    final List<List<int[]>> lines = new ArrayList<>();
    final TreeMap<Integer, Show> shows = new TreeMap<>();
    final int[] gates = new int[4];
    int day = 0;

    private static void index(boolean isRight) {
        if (!isRight) {
            throw new IndexOutOfBoundsException();
        }
    }

    private static void argument(boolean isRight) {
        if (!isRight) {
            throw new IllegalArgumentException();
        }
    }

    private static void state(boolean isRight) {
        if (!isRight) {
            throw new IllegalStateException();
        }
    }

    private boolean isBody(int w) {
        return w >= 0 && w < bodies.size();
    }

    private static boolean isTown(int t) {
        return t >= 0 && t <= 3;
    }

    private Bout bout(int d, int m) {
        index(shows.containsKey(d) && m >= 0 && m < shows.get(d).bouts.size());
        return shows.get(d).bouts.get(m);
    }

    private boolean hurtOn(int w, int d) {
        return bodies.get(w).hurtTo > d;
    }

    int wrestler(int skill, int mic, int role) {
        argument(skill >= 0 && skill <= 99 && mic >= 0 && mic <= 99 && (role == 0 || role == 1));
        state(bodies.size() < 10);
        Body body = new Body();
        body.skill = skill;
        body.mic = mic;
        body.role = role;
        bodies.add(body);
        return bodies.size() - 1;
    }

    int title() {
        state(lines.size() < 4);
        lines.add(new ArrayList<>());
        return lines.size() - 1;
    }

    int clause(int w, int o, int until) {
        index(isBody(w) && isBody(o));
        argument(w != o && until >= -1 && until <= 999);
        Integer before = bodies.get(w).clauses.put(o, until);
        return before == null ? -1 : before;
    }

    int protect(int w, int d) {
        index(isBody(w));
        argument(d >= 0 && d <= 999);
        int before = bodies.get(w).safe;
        bodies.get(w).safe = d;
        return before;
    }

    private boolean barred(int loser, int winner, int d) {
        return bodies.get(loser).clauses.getOrDefault(winner, -1) >= d || bodies.get(loser).safe > d;
    }

    int book(int d, int town, int a, int b, boolean aWins, int minutes, int title) {
        index(isTown(town) && isBody(a) && isBody(b) && (title == -1 || title >= 0 && title < lines.size()));
        argument(d >= day && d <= 999 && minutes >= 1 && minutes <= 60 && a != b);
        Show show = shows.get(d);
        if (show != null) {
            state(!show.played && show.town == town && show.bouts.size() < 6);
            int sum = minutes;
            for (Bout other : show.bouts) {
                sum += other.minutes;
                for (int w : other.who) {
                    state(w != a && w != b);
                }
                state(title == -1 || other.title != title);
            }
            state(sum <= 120);
        }
        state(!hurtOn(a, d) && !hurtOn(b, d));
        if (title != -1) {
            int holder = champion(title);
            state(holder == -1 || holder == a || holder == b);
        }
        state(!barred(aWins ? b : a, aWins ? a : b, d));
        if (show == null) {
            show = new Show();
            show.town = town;
            shows.put(d, show);
        }
        Bout bout = new Bout();
        bout.who = new int[] {a, b};
        bout.winnerPlace = aWins ? 0 : 1;
        bout.minutes = minutes;
        bout.title = title;
        show.bouts.add(bout);
        return show.bouts.size() - 1;
    }

    int strike(int d, int m) {
        Bout bout = bout(d, m);
        state(!shows.get(d).played);
        shows.get(d).bouts.remove(bout);
        int left = shows.get(d).bouts.size();
        if (left == 0) {
            shows.remove(d);
        }
        return left;
    }

    int shoot(int m) {
        Bout bout = bout(day, m);
        state(!shows.get(day).played);
        int before = bout.real ? 1 : 0;
        bout.real = true;
        return before;
    }

    int hurt(int w, int days) {
        index(isBody(w));
        argument(days >= 1 && days <= 200);
        return wound(w, day + days);
    }

    int head(int w) {
        index(isBody(w));
        int heads = ++bodies.get(w).heads;
        return wound(w, heads == 1 ? day + 30 : heads == 2 ? day + 60 : 10000);
    }

    private int wound(int w, int to) {
        Body body = bodies.get(w);
        if (to > body.hurtTo) {
            body.hurtTo = to;
        }
        for (int t = 0; t < lines.size(); t++) {
            if (champion(t) == w && body.hurtTo > day + 60) {
                lines.get(t).add(new int[] {-1, day});
            }
        }
        return body.hurtTo;
    }

    /** Of all ways the best, as who comes by places; null where the call throws. */
    private int[] bestWay() {
        state(shows.containsKey(day) && !shows.get(day).played);
        Show show = shows.get(day);
        List<int[]> open = new ArrayList<>();
        List<Integer> on = new ArrayList<>();
        for (int m = 0; m < show.bouts.size(); m++) {
            for (int p = 0; p < 2; p++) {
                int w = show.bouts.get(m).who[p];
                on.add(w);
                if (hurtOn(w, day)) {
                    open.add(new int[] {m, p});
                }
            }
        }
        state(open.size() <= 4);
        int[] best = null;
        int[] way = new int[open.size()];
        int ways = 1;
        for (int i = 0; i < way.length; i++) {
            ways *= bodies.size() + 1;
        }
        // the last place changes fastest, so the ways come in the order in which they are preferred
        for (int n = 0; n < ways; n++) {
            int left = n;
            for (int i = way.length - 1; i >= 0; i--) {
                way[i] = left % (bodies.size() + 1);
                left /= bodies.size() + 1;
            }
            if (isWay(way, open, on) && (best == null || sum(way) > sum(best))) {
                best = way.clone();
            }
        }
        return best;
    }

    private int sum(int[] way) {
        int sum = 0;
        for (int w : way) {
            sum += w < bodies.size() ? worth(shows.get(day).town, w) : 0;
        }
        return sum;
    }

    private boolean isWay(int[] way, List<int[]> open, List<Integer> on) {
        Show show = shows.get(day);
        int nobody = bodies.size();
        for (int i = 0; i < way.length; i++) {
            Bout bout = show.bouts.get(open.get(i)[0]);
            int[] there = bout.who.clone();
            for (int j = 0; j < way.length; j++) {
                if (open.get(j)[0] == open.get(i)[0]) {
                    there[open.get(j)[1]] = way[j];
                    if ((way[i] == nobody) != (way[j] == nobody)) {
                        return false;
                    }
                }
                if (i != j && way[i] == way[j] && way[i] != nobody) {
                    return false;
                }
            }
            if (way[i] == nobody) {
                continue;
            }
            if (hurtOn(way[i], day) || on.contains(way[i])
                    || barred(there[1 - bout.winnerPlace], there[bout.winnerPlace], day)) {
                return false;
            }
        }
        return true;
    }

    int mending() {
        return sum(bestWay());
    }

    int mend() {
        int[] best = bestWay();
        Show show = shows.get(day);
        List<Bout> stay = new ArrayList<>();
        int i = 0;
        for (Bout bout : show.bouts) {
            boolean stays = true;
            for (int p = 0; p < 2; p++) {
                if (hurtOn(bout.who[p], day)) {
                    stays &= best[i] < bodies.size();
                    bout.who[p] = best[i];
                    i++;
                }
            }
            if (stays) {
                stay.add(bout);
            }
        }
        int struck = show.bouts.size() - stay.size();
        show.bouts = stay;
        if (stay.isEmpty()) {
            shows.remove(day);
        }
        return struck;
    }

    int play() {
        state(shows.containsKey(day) && !shows.get(day).played);
        Show show = shows.get(day);
        for (Bout bout : show.bouts) {
            state(!hurtOn(bout.who[0], day) && !hurtOn(bout.who[1], day));
        }
        int before = gates[show.town];
        for (Bout bout : show.bouts) {
            gates[show.town] += worth(show.town, bout.who[0]) + worth(show.town, bout.who[1]);
            int w = bout.who[bout.winnerPlace];
            int l = bout.who[1 - bout.winnerPlace];
            if (!bout.real) {
                boolean alike = bodies.get(w).role == bodies.get(l).role;
                like(w, show.town, alike ? 3 : bodies.get(w).role == 0 ? 6 : -6);
                like(l, show.town, alike ? -1 : bodies.get(l).role == 0 ? 2 : -2);
            }
            bodies.get(w).strain += bout.minutes;
            bodies.get(l).strain += bout.minutes;
            if (!bout.real && bout.title != -1) {
                int holder = champion(bout.title);
                if (holder == -1 || holder == l) {
                    lines.get(bout.title).add(new int[] {w, day});
                }
            }
            turn(bout.who[0]);
            turn(bout.who[1]);
        }
        show.played = true;
        return gates[show.town] - before;
    }

    private void like(int w, int town, int more) {
        int[] love = bodies.get(w).love;
        love[town] += more;
        if (love[town] > 99) {
            love[town] = 99;
        }
        if (love[town] < -99) {
            love[town] = -99;
        }
    }

    private void turn(int w) {
        Body body = bodies.get(w);
        long up = Arrays.stream(body.love).filter(x -> x >= 50).count();
        long down = Arrays.stream(body.love).filter(x -> x <= -50).count();
        if (body.role == 1 ? up >= 2 : down >= 2) {
            body.role = 1 - body.role;
        }
    }

    int promo(int town, int w, int slips) {
        index(isTown(town) && isBody(w));
        argument(slips >= 0 && slips <= 9);
        Body body = bodies.get(w);
        state(!hurtOn(w, day) && body.promoOn != day);
        body.promoOn = day;
        int change = body.mic / 10 > slips ? body.mic / 10 - slips : 0;
        like(w, town, body.role == 0 ? change : -change);
        turn(w);
        return body.love[town];
    }

    int pass() {
        state(day != 999);
        if (shows.containsKey(day) && !shows.get(day).played) {
            shows.remove(day);
        }
        for (Body body : bodies) {
            body.strain = body.strain < 10 ? 0 : body.strain - 10;
        }
        return ++day;
    }

    int ofWrestler(int w, int what) {
        index(isBody(w));
        argument(what >= 0 && what <= 6);
        Body body = bodies.get(w);
        int count = 0;
        for (Show show : shows.values()) {
            for (Bout bout : show.bouts) {
                boolean won = bout.who[bout.winnerPlace] == w;
                boolean lost = bout.who[1 - bout.winnerPlace] == w;
                if (show.played && (what == 4 && won && !bout.real || what == 5 && lost && !bout.real
                        || what == 6 && (won || lost) && bout.real)) {
                    count++;
                }
            }
        }
        int[] told = {body.role, body.strain, body.hurtTo > day ? body.hurtTo : 0, body.heads, count, count, count};
        return told[what];
    }

    int love(int town, int w) {
        index(isTown(town) && isBody(w));
        return bodies.get(w).love[town];
    }

    int worth(int town, int w) {
        index(isTown(town) && isBody(w));
        Body body = bodies.get(w);
        int love = body.love[town];
        int worth = body.skill + (love < 0 ? -love : love) - body.strain / 10;
        return worth < 1 ? 1 : worth;
    }

    int ofCard(int d, int what) {
        argument(d >= 0 && d <= 999 && what >= 0 && what <= 3);
        Show show = shows.get(d);
        if (show == null) {
            return what == 0 ? -1 : 0;
        }
        int minutes = 0;
        for (Bout bout : show.bouts) {
            minutes += bout.minutes;
        }
        return new int[] {show.town, show.bouts.size(), minutes, show.played ? 1 : 0}[what];
    }

    int ofMatch(int d, int m, int what) {
        Bout bout = bout(d, m);
        argument(what >= 0 && what <= 5);
        int winner = shows.get(d).played && bout.real ? -1 : bout.who[bout.winnerPlace];
        return new int[] {bout.who[0], bout.who[1], winner, bout.minutes, bout.title, bout.real ? 1 : 0}[what];
    }

    int lineage(int t, int at, boolean isDay) {
        index(t >= 0 && t < lines.size() && at >= 0 && at < lines.get(t).size());
        return lines.get(t).get(at)[isDay ? 1 : 0];
    }

    int champion(int t) {
        index(t >= 0 && t < lines.size());
        List<int[]> line = lines.get(t);
        return line.isEmpty() ? -1 : line.get(line.size() - 1)[0];
    }

    int beat(int w, int o) {
        index(isBody(w) && isBody(o));
        int count = 0;
        for (Show show : shows.values()) {
            for (Bout bout : show.bouts) {
                if (show.played && !bout.real && bout.who[bout.winnerPlace] == w && bout.who[1 - bout.winnerPlace] == o) {
                    count++;
                }
            }
        }
        return count;
    }

    int gate(int town) {
        index(isTown(town));
        return gates[town];
    }
}
