import java.math.BigInteger;
import java.util.ArrayList;
import java.util.List;
import java.util.Random;

/** The document's terms once more, as slowly and plainly as can be: what the class is compared with. */
final class Naive {
    static final class Rider {
        int on;
        int off;
        int pocket;
        int wish;
        int patience;
        int fare;
    }

    final int[] minutes;
    final int[] grades;
    final int[] pounds;
    final int[] odds;
    final Integer[] printed;
    final List<Rider> riders = new ArrayList<>();
    int halt = 2;
    int eat;
    int grace;
    int bishop;
    Integer other;
    final int n;

    Naive(Random random, int most) {
        n = random.nextInt(6) == 0 ? most : 2 + random.nextInt(most - 1);
        // A long line has fewer STATIONS and ODDS, so that the tape has room for it.
        int rare = n > 9 ? 4 : 2;
        minutes = new int[n];
        grades = new int[n];
        pounds = new int[n];
        odds = new int[n];
        printed = new Integer[n];
        boolean plain = random.nextBoolean();
        for (int p = 0; p < n; p++) {
            minutes[p] = 1 + random.nextInt(plain ? 4 : 30);
            grades[p] = plain ? random.nextInt(2) : random.nextInt(4);
            pounds[p] = random.nextInt(4) == 0 ? 0 : random.nextInt(plain ? 6 : 31);
            odds[p] = random.nextInt(rare) != 0 ? 0 : random.nextInt(11);
            printed[p] = random.nextInt(rare) == 0 ? random.nextInt(60) : null;
        }
        int many = random.nextInt(7);
        for (int r = 0; r < many; r++) {
            Rider rider = new Rider();
            rider.on = random.nextInt(n - 1);
            rider.off = rider.on + 1 + random.nextInt(n - 1 - rider.on);
            rider.pocket = 1 + random.nextInt(random.nextBoolean() ? 60 : 12);
            rider.wish = 1 + random.nextInt(random.nextBoolean() ? 30 : 4);
            rider.patience = random.nextInt(random.nextBoolean() ? 201 : 20);
            rider.fare = random.nextInt(random.nextBoolean() ? 10 : 3);
            riders.add(rider);
        }
        halt = 1 + random.nextInt(9);
        eat = random.nextInt(4);
        grace = random.nextInt(10);
        bishop = random.nextInt(4);
        other = random.nextInt(5) == 0 ? null : random.nextInt(120);
    }

    /** The line's text; it may be too long for the tape. */
    String text() {
        StringBuilder t = new StringBuilder();
        for (int p = 0; p < n; p++) {
            t.append("post " + minutes[p] + " " + grades[p] + " " + pounds[p] + ";");
            if (printed[p] != null) {
                t.append("station " + p + " " + printed[p] + ";");
            }
            if (odds[p] != 0) {
                t.append("odds " + p + " " + odds[p] + ";");
            }
        }
        for (Rider r : riders) {
            t.append("rider " + r.on + " " + r.off + " " + r.pocket + " " + r.wish + " " + r.patience + " " + r.fare
                + ";");
        }
        t.append("halt " + halt + ";eat " + eat + ";grace " + grace + ";bishop " + bishop + ";");
        if (other != null) {
            t.append("other " + other + ";");
        }
        return t.toString();
    }

    int cost(int p) {
        return halt + 2 * grades[p] + (grades[p] == 3 && p != 0 ? 2 * minutes[p - 1] : 0);
    }

    int have(int p, int week) {
        int left = pounds[p];
        for (int w = 0; w < week; w++) {
            left = Math.max(0, left - eat);
        }
        return left;
    }

    /** A run: by a law with the riders who may pull, or by a given list of stops. */
    final class Run {
        final Integer[] who = new Integer[n];
        final int[] left = new int[n];
        final int[] room = new int[riders.size()];
        final int[] kept = new int[riders.size()];
        final boolean[] stop = new boolean[n];
        int gathered;
        int stove;
        int done;

        Run(int week) {
            for (int p = 0; p < n; p++) {
                left[p] = have(p, week);
            }
            for (int r = 0; r < room.length; r++) {
                room[r] = riders.get(r).pocket;
            }
        }

        int delayBefore(int post) {
            int sum = 0;
            for (int p = 0; p < post; p++) {
                sum += stop[p] ? cost(p) : 0;
            }
            return sum;
        }

        int delay() {
            return delayBefore(n);
        }

        int arrival(int post) {
            int minute = delayBefore(post);
            for (int p = 0; p < post; p++) {
                minute += minutes[p];
            }
            return minute;
        }

        int late(int post) {
            return Math.max(0, arrival(post) - printed[post]);
        }

        int fines() {
            int sum = 0;
            for (int p = 0; p < n; p++) {
                if (printed[p] != null && late(p) > grace) {
                    sum += late(p) - grace;
                }
            }
            return sum;
        }

        int stops() {
            int bits = 0;
            for (int p = 0; p < n; p++) {
                bits += stop[p] ? 1 << p : 0;
            }
            return bits;
        }

        int bishopOut() {
            int count = 0;
            for (int p = 0; p < n; p++) {
                if (stop[p] && ++count == bishop) {
                    return p;
                }
            }
            return -1;
        }

        int gain(int r) {
            return 10 * kept[r] - delayBefore(riders.get(r).off);
        }

        boolean there(int r, int p) {
            return riders.get(r).on <= p && riders.get(r).off > p;
        }

        void pull(int r, int p) {
            stop[p] = true;
            who[p] = r;
            for (int third = 1; left[p] > 0 && room[r] > 0; third++) {
                left[p]--;
                room[r]--;
                gathered++;
                if (third % 3 == 0) {
                    stove++;
                } else {
                    kept[r]++;
                }
            }
        }
    }

    Run run(int law, int seed, int week, int pullers) {
        Run run = new Run(week);
        int x = seed;
        List<Integer> pulled = new ArrayList<>();
        for (int p = 0; p < n - 1 && law >= 0; p++) {
            List<Integer> want = new ArrayList<>();
            for (int r = 0; r < riders.size(); r++) {
                Rider rider = riders.get(r);
                if ((pullers >> r & 1) == 1 && run.there(r, p) && run.left[p] > 0 && run.left[p] >= rider.wish
                    && run.room[r] > 0 && rider.patience >= run.delay() + cost(p)) {
                    want.add(r);
                }
            }
            if (law == 1) {
                want.removeAll(pulled);
            }
            if (want.isEmpty()) {
                continue;
            }
            Integer chosen = want.get(0);
            if (law == 2) {
                x = x * 1103515245 + 12345;
                chosen = want.get((int) (((x & 0xffffffffL) >> 16) % want.size()));
            }
            if (law == 3) {
                for (Integer r : want) {
                    if (riders.get(r).fare > riders.get(chosen).fare) {
                        chosen = r;
                    }
                }
            }
            pulled.add(chosen);
            run.pull(chosen, p);
        }
        return run;
    }

    Run run(int law, int seed, int week) {
        return run(law, seed, week, 63);
    }

    Run plan(int[][] pulls, int week) {
        Run run = new Run(week);
        int before = -1;
        for (int[] pull : pulls) {
            int p = pull[0];
            int r = pull[1];
            if (p >= n - 1 || p <= before || r >= riders.size() || !run.there(r, p) || run.room[r] == 0
                || run.left[p] == 0) {
                break;
            }
            run.pull(r, p);
            before = p;
            run.done++;
        }
        return run;
    }

    int allCosts(int set) {
        int sum = 0;
        for (int p = 0; p < n; p++) {
            sum += (set >> p & 1) == 1 ? cost(p) : 0;
        }
        return sum;
    }

    int allPounds(int set, int week) {
        int sum = 0;
        for (int p = 0; p < n; p++) {
            sum += (set >> p & 1) == 1 ? have(p, week) : 0;
        }
        return sum;
    }

    boolean withPounds(int set, int week) {
        for (int p = 0; p < n; p++) {
            if ((set >> p & 1) == 1 && have(p, week) == 0) {
                return false;
            }
        }
        return true;
    }

    /** POUNDS, set, COSTS. */
    int[] purse(int week, int limit) {
        int[] best = {-1, 0, 0};
        for (int set = 0; set < 1 << n - 1; set++) {
            int costs = allCosts(set);
            int got = allPounds(set, week);
            if (withPounds(set, week) && costs <= limit && (got > best[0] || got == best[0] && costs < best[2])) {
                best = new int[] {got, set, costs};
            }
        }
        return best;
    }

    List<Integer> shells(int week, int ofPounds, int ofMinutes) {
        List<Integer> found = new ArrayList<>();
        for (int set = 0; set < 1 << n - 1; set++) {
            if (withPounds(set, week) && allCosts(set) == ofMinutes && allPounds(set, week) == ofPounds) {
                found.add(set);
            }
        }
        return found;
    }

    List<Integer> hold(int[][] log) {
        List<Integer> found = new ArrayList<>();
        for (int set = 0; set < 1 << n - 1; set++) {
            Run run = new Run(0);
            for (int p = 0; p < n; p++) {
                run.stop[p] = (set >> p & 1) == 1;
            }
            boolean holds = true;
            for (int[] seen : log) {
                holds &= seen[0] < n && run.arrival(seen[0]) == seen[1];
            }
            if (holds) {
                found.add(set);
            }
        }
        return found;
    }

    List<Integer> rest(int week) {
        List<Integer> found = new ArrayList<>();
        for (int set = 0; set < 1 << riders.size(); set++) {
            boolean still = true;
            for (int r = 0; r < riders.size(); r++) {
                still &= run(0, 0, week, set ^ 1 << r).gain(r) <= run(0, 0, week, set).gain(r);
            }
            if (still) {
                found.add(set);
            }
        }
        return found;
    }

    int calm(int week, int limit) {
        for (int many = 0; many <= riders.size(); many++) {
            for (int still = 0; still < 1 << riders.size(); still++) {
                Run run = run(0, 0, week, 63 - still);
                if (Integer.bitCount(still) == many && (limit == -1 ? run.bishopOut() == -1 : run.delay() <= limit)) {
                    return still;
                }
            }
        }
        return -1;
    }

    /** How many of 10 to the power of posts go with all COSTS of the posts before one not above s. */
    long parts(int posts, int s) {
        if (s < 0) {
            return 0;
        }
        if (posts == 0) {
            return 1;
        }
        return parts(posts - 1, s) * (10 - odds[posts - 1]) + parts(posts - 1, s - cost(posts - 1)) * odds[posts - 1];
    }

    long[] leastTerms(long a, long b) {
        BigInteger g = BigInteger.valueOf(a).gcd(BigInteger.valueOf(b));
        return new long[] {a / g.longValue(), b / g.longValue()};
    }

    long power(int posts) {
        long power = 1;
        for (int i = 0; i < posts; i++) {
            power *= 10;
        }
        return power;
    }

    int slack(int posts, int q) {
        int s = 0;
        while (parts(posts, s) * 100 < q * power(posts)) {
            s++;
        }
        return s;
    }

    /** Minute by minute: where our train is and when it leaves; the last entries: all WAITS, MET. */
    final class Both {
        final int[] arrival = new int[n];
        final int[] wait = new int[n];
        int waits;
        int met = -1;

        Both(int stops) {
            int[] theirs = new int[n];
            theirs[n - 1] = other;
            for (int p = n - 2; p >= 0; p--) {
                theirs[p] = theirs[p + 1] + minutes[p];
            }
            for (int p = 0; p < n - 1; p++) {
                int t = arrival[p] + ((stops >> p & 1) == 1 ? cost(p) : 0);
                int next = p + 1;
                int could = t + minutes[p];
                while (next < n && printed[next] == null) {
                    could += minutes[next];
                    next++;
                }
                if (printed[p] != null && next < n && theirs[p] > t && theirs[next] < could) {
                    wait[p] = theirs[p] - t;
                }
                int a = t + wait[p];
                int b = a + minutes[p];
                if (met == -1 && a < theirs[p] && theirs[p + 1] < b) {
                    met = p;
                }
                arrival[p + 1] = b;
                waits += wait[p];
            }
        }
    }
}
