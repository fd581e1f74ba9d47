import java.util.List;
import java.util.Random;

/** Promises 6 to 32 on many lines, drawn with fixed seeds, against the naive model. */
public final class OracleTest {
    private static Naive m;
    private static ChestnutLine x;
    private static String of;

    public static void main(String[] args) {
        int told = 0;
        for (int trial = 0; told < 250; trial++) {
            Random random = new Random(trial);
            m = new Naive(random, trial % 3 == 0 ? 16 : 8);
            String text = m.text();
            if (text.length() > 580) {
                continue;
            }
            told++;
            of = " on line " + trial;
            anew(text);
            told();
            for (int i = 0; i < 6; i++) {
                runs(random.nextInt(5) - 1, random.nextInt(), random.nextInt(10));
                if (i % 2 == 1) {
                    anew(text);
                }
            }
            overLaws(random.nextInt(), random.nextInt(10));
            plans(random, random.nextInt(10));
            anew(text);
            riders(random, random.nextInt(4));
            anew(text);
            sets(random, random.nextInt(4));
            logs(random);
            logs(random);
            odds(random);
            risks();
        }
        Told.finish();
    }

    /** An object is asked at most 512 times: what it answers later is free. */
    private static void anew(String text) {
        x = Told.line(text);
    }

    private static void told() {
        Told.due("line POSTS" + of, x.line(0, 0), m.n);
        Told.due("line RIDERS" + of, x.line(0, 1), m.riders.size());
        for (int p = 0; p < m.n; p++) {
            Told.due("COST of " + p + of, x.post(0, p, 5), p == m.n - 1 ? -1 : m.cost(p));
            Told.due("POUNDS of " + p + of, x.post(0, p, 15), m.have(p, 5));
            Told.due("printed " + p + of, x.post(0, p, 4), m.printed[p] == null ? -1 : m.printed[p]);
        }
    }

    private static void runs(int law, int seed, int week) {
        Naive.Run run = m.run(law, seed, week);
        String by = " by " + law + ", " + seed + ", " + week + of;
        int[] whats = {run.arrival(m.n - 1), run.gathered, Integer.bitCount(run.stops()), run.delay(), run.stove,
            run.fines(), run.bishopOut(), run.stops()};
        for (int what = 0; what < whats.length; what++) {
            Told.due("run " + what + by, x.run(0, law, seed, week, what), whats[what]);
        }
        int left = 0;
        for (int p = 0; p < m.n; p++) {
            left += run.left[p];
            Told.due("run 100 + " + p + by, x.run(0, law, seed, week, 100 + p), run.arrival(p));
            Told.due("who " + p + by, x.who(0, law, seed, week, p), run.who[p] == null ? -1 : run.who[p]);
            Told.due("late " + p + by, x.late(0, law, seed, week, p), m.printed[p] == null ? -1 : run.late(p));
            Told.due("left " + p + by, x.left(0, law, seed, week, p), run.left[p]);
        }
        Told.due("left" + by, x.left(0, law, seed, week, -1), left);
        int rich = -1;
        for (int r = 0; r < m.riders.size(); r++) {
            Told.due("run 200 + " + r + by, x.run(0, law, seed, week, 200 + r), run.kept[r]);
            rich = run.kept[r] > (rich == -1 ? 0 : run.kept[rich]) ? r : rich;
        }
        Told.due("rich" + by, x.rich(0, law, seed, week, false), rich);
        Told.due("spare" + by, x.rich(0, law, seed, week, true), spare(law, seed, week, run.delay()));
        meets(law, seed, week, run.stops(), by);
    }

    private static int spare(int law, int seed, int week, int delay) {
        int best = -1;
        int least = delay;
        for (int p = 0; p < m.n; p++) {
            int had = m.pounds[p];
            m.pounds[p] = 0;
            int now = m.run(law, seed, week).delay();
            m.pounds[p] = had;
            if (now < least) {
                best = p;
                least = now;
            }
        }
        return best;
    }

    private static void meets(int law, int seed, int week, int stops, String by) {
        if (m.other == null) {
            Told.due("meet" + by, x.meet(0, law, seed, week, 0), -2);
            return;
        }
        Naive.Both both = m.new Both(stops);
        Told.due("meet 0" + by, x.meet(0, law, seed, week, 0), both.arrival[m.n - 1]);
        Told.due("meet 1" + by, x.meet(0, law, seed, week, 1), both.waits);
        Told.due("meet 2" + by, x.meet(0, law, seed, week, 2), both.met);
        for (int p = 0; p < m.n; p++) {
            Told.due("meet 100 + " + p + by, x.meet(0, law, seed, week, 100 + p), both.arrival[p]);
            Told.due("meet 200 + " + p + by, x.meet(0, law, seed, week, 200 + p), both.wait[p]);
        }
    }

    private static void risks() {
        if (m.other == null) {
            Told.due("risk" + of, x.risk(0, 0), -1);
            return;
        }
        int risk = 0;
        int drag = 0;
        for (int p = 0; p < m.n - 1; p++) {
            Naive.Both both = m.new Both(1 << p);
            risk += both.met == -1 ? 0 : 1 << p;
            drag += both.waits > m.new Both(0).waits ? 1 << p : 0;
        }
        Told.due("risk" + of, x.risk(0, 0), risk);
        Told.due("drag" + of, x.risk(0, 1), drag);
    }

    private static void overLaws(int seed, int week) {
        int most = 0;
        int calmest = 0;
        for (int law = 1; law < 4; law++) {
            most = m.run(law, seed, week).gathered > m.run(most, seed, week).gathered ? law : most;
            calmest = m.run(law, seed, week).delay() < m.run(calmest, seed, week).delay() ? law : calmest;
        }
        Told.due("most" + of, x.most(0, seed, week, false), most);
        Told.due("most, late" + of, x.most(0, seed, week, true), calmest);
        for (int law = 0; law < 4; law++) {
            int sum = 0;
            int best = 0;
            for (int w = 0; w < 10; w++) {
                sum += m.run(law, seed, w).gathered;
                best = m.run(law, seed, w).gathered > m.run(law, seed, best).gathered ? w : best;
            }
            Told.due("weeks by " + law + of, x.weeks(0, law, seed, false), best);
            Told.due("weeks, sum, by " + law + of, x.weeks(0, law, seed, true), sum);
        }
        int[] lots = new int[3];
        for (int w = 1; w <= 20; w++) {
            Naive.Run run = m.run(2, seed + w - 1, week);
            lots[0] += run.gathered;
            lots[1] += run.delay();
            lots[2] += run.bishopOut() == -1 ? 0 : 1;
            for (int what = 0; what < 3; what++) {
                Told.due("lots of " + w + ", " + what + of, x.lots(0, week, seed, w, what), lots[what]);
            }
        }
        votes(seed, week);
    }

    private static void votes(int seed, int week) {
        int[] votes = new int[4];
        for (int r = 0; r < m.riders.size(); r++) {
            int best = 0;
            for (int law = 1; law < 4; law++) {
                best = m.run(law, seed, week).gain(r) > m.run(best, seed, week).gain(r) ? law : best;
            }
            votes[best]++;
        }
        int winner = 0;
        for (int law = 1; law < 4; law++) {
            winner = votes[law] > votes[winner] ? law : winner;
        }
        boolean none = m.riders.isEmpty();
        Told.due("vote" + of, x.vote(0, seed, week, false), none ? -1 : winner);
        Told.due("vote, many" + of, x.vote(0, seed, week, true), none ? -1 : votes[winner]);
    }

    private static void plans(Random random, int week) {
        int[][] pulls = new int[random.nextInt(6)][2];
        StringBuilder text = new StringBuilder();
        int post = 0;
        for (int[] pull : pulls) {
            post += random.nextInt(3);
            pull[0] = Math.min(15, post);
            pull[1] = random.nextInt(Math.min(6, m.riders.size() + 1));
            text.append("pull " + pull[0] + " " + pull[1] + ";");
        }
        Told.text(x, 1, x.count(1) == 0 ? -1 : 0, text.toString());
        Naive.Run run = m.plan(pulls, week);
        int[] whats = {run.done, run.gathered, run.delay(), run.fines(), run.stove};
        for (int what = 0; what < whats.length; what++) {
            Told.due("played " + what + " of " + text + of, x.played(0, 0, week, what), whats[what]);
        }
        for (int r = 0; r < m.riders.size(); r++) {
            Told.due("played 200 + " + r + of, x.played(0, 0, week, 200 + r), run.kept[r]);
        }
    }

    private static void riders(Random random, int week) {
        List<Integer> rests = m.rest(week);
        Told.due("rest" + of, x.rest(0, week, -1), rests.size());
        for (int k = 0; k < rests.size(); k++) {
            Told.due("rest " + k + of, x.rest(0, week, k), rests.get(k));
        }
        Told.due("rest beyond" + of, x.rest(0, week, rests.size()), -2);
        for (int i = 0; i < 4; i++) {
            int limit = random.nextInt(60);
            Told.due("calm " + limit + of, x.calm(0, week, limit), m.calm(week, limit));
        }
        Told.due("calm, BISHOP" + of, x.calm(0, week, -1), m.calm(week, -1));
        for (int r = 0; r < m.riders.size(); r++) {
            int set = random.nextInt(1 << m.riders.size());
            Told.due("gain of " + r + " by " + set + of, x.gain(0, week, set, r), m.run(0, 0, week, set).gain(r));
            for (int what = 0; what < 3; what++) {
                Told.due("bid " + what + " of " + r + of, x.bid(0, week, r, what), bid(week, r, what));
            }
        }
    }

    private static int bid(int week, int r, int what) {
        int[] low = {0, 1, 0};
        int[] high = {9, 60, 200};
        Naive.Rider rider = m.riders.get(r);
        int[] was = {rider.fare, rider.pocket, rider.patience};
        int best = -1;
        int most = -1;
        for (int value = low[what]; value <= high[what]; value++) {
            rider.fare = what == 0 ? value : was[0];
            rider.pocket = what == 1 ? value : was[1];
            rider.patience = what == 2 ? value : was[2];
            int kept = m.run(what == 0 ? 3 : 0, 0, week).kept[r];
            if (kept > most) {
                best = value;
                most = kept;
            }
        }
        rider.fare = was[0];
        rider.pocket = was[1];
        rider.patience = was[2];
        return best;
    }

    private static void sets(Random random, int week) {
        int[] limits = {999, random.nextInt(1000), random.nextInt(60), random.nextInt(60), random.nextInt(20)};
        for (int i = 0; i < limits.length; i++) {
            int[] purse = m.purse(week + i, limits[i]);
            for (int what = 0; what < 3; what++) {
                Told.due("purse of " + limits[i] + ", " + what + of, x.purse(0, week + i, limits[i], what), purse[what]);
            }
        }
        int set = random.nextInt(1 << m.n - 1);
        for (int p = 0; p < m.n; p++) {
            set &= m.have(p, week) == 0 ? ~(1 << p) : -1;
        }
        int pounds = m.allPounds(set, week);
        int costs = m.allCosts(set);
        List<Integer> shells = m.shells(week, pounds, costs);
        Told.due("shells" + of, x.shells(0, week, pounds, costs, 0), shells.size());
        Told.due("shells, SURE" + of, x.shells(0, week, pounds, costs, 1), sure(shells));
        Told.due("shells, MAYBE" + of, x.shells(0, week, pounds, costs, 2), maybe(shells));
    }

    private static void logs(Random random) {
        int stops = random.nextInt(1 << m.n - 1);
        int[][] log = new int[m.n > 12 ? random.nextInt(2) : random.nextInt(4)][2];
        StringBuilder text = new StringBuilder();
        for (int[] seen : log) {
            seen[0] = random.nextInt(m.n);
            for (int p = 0; p < seen[0]; p++) {
                seen[1] += m.minutes[p] + ((stops >> p & 1) == 1 ? m.cost(p) : 0);
            }
            seen[1] = Math.min(999, seen[1] + (random.nextInt(12) == 0 ? 1 : 0));
            text.append("seen " + seen[0] + " " + seen[1] + ";");
        }
        Told.text(x, 2, x.count(2) == 0 ? -1 : 0, text.toString());
        List<Integer> hold = m.hold(log);
        Told.due("hold of " + text + of, x.hold(0, 0, 0), hold.size());
        Told.due("hold, SURE of " + text + of, x.hold(0, 0, 1), sure(hold));
        Told.due("hold, MAYBE of " + text + of, x.hold(0, 0, 2), maybe(hold));
        Told.due("hold, FIRST of " + text + of, x.hold(0, 0, 3), hold.isEmpty() ? -1 : hold.get(0));
    }

    private static int sure(List<Integer> sets) {
        int bits = -1;
        for (int set : sets) {
            bits &= set;
        }
        return bits;
    }

    private static int maybe(List<Integer> sets) {
        int bits = 0;
        for (int set : sets) {
            bits |= set;
        }
        return bits;
    }

    private static void odds(Random random) {
        long[] mean = {0, 10};
        for (int p = 0; p < m.n - 1; p++) {
            mean[0] += m.odds[p] * m.cost(p);
        }
        fraction("MEAN", -1, m.leastTerms(mean[0], mean[1]));
        if (m.n > 9) {
            oddsOfLongLine(random);
            return;
        }
        for (int i = 0; i < 3; i++) {
            int s = random.nextInt(i == 0 ? 1000 : 60);
            fraction("chance", s, m.leastTerms(m.parts(m.n - 1, s), m.power(m.n - 1)));
            int q = random.nextInt(101);
            Told.due("slack of " + q + of, x.slack(0, q), m.slack(m.n - 1, q));
            for (int p = 0; p < m.n; p++) {
                int way = 0;
                for (int before = 0; before < p; before++) {
                    way += m.minutes[before];
                }
                int due = q == 0 ? 0 : way + m.slack(p, q);
                Told.due("print of " + p + ", " + q + of, x.print(0, p, q), m.printed[p] == null ? -1 : due);
            }
        }
    }

    /** SLACK is looked at from both sides alone: by searching for it the naive model would take too long. */
    private static void oddsOfLongLine(Random random) {
        int s = random.nextInt(200);
        fraction("chance", s, m.leastTerms(m.parts(m.n - 1, s), m.power(m.n - 1)));
        int q = 1 + random.nextInt(100);
        int slack = x.slack(0, q);
        long due = q * m.power(m.n - 1);
        Told.due("slack of " + q + of + " holds", m.parts(m.n - 1, slack) * 100 >= due, true);
        Told.due("less than slack of " + q + of + " holds", m.parts(m.n - 1, slack - 1) * 100 >= due, false);
    }

    private static void fraction(String name, int s, long[] due) {
        Told.due(name + " of " + s + of, x.chance(0, s, false), due[0]);
        Told.due(name + " of " + s + ", under" + of, x.chance(0, s, true), due[1]);
    }
}
