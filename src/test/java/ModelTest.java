import java.util.ArrayList;
import java.util.List;

/**
 * Long runs of calls, each answer beside that of a second program, which is written after the
 * document in another way: it keeps no seats, weighs each tick claim by claim, and tries out all
 * plans where few ticks are left.
 */
public final class ModelTest {
    private static final int RUNS = 400;
    private static final int CALLS = 512;
    private static int wrong;
    private static long seed = 20261119;

    /** A row of numbers that is the same each time. */
    private static int pick(int bound) {
        seed = seed * 6364136223846793005L + 1442695040888963407L;
        return (int) ((seed >>> 33) % bound);
    }

    private static int among(int bound) {
        int r = pick(60);
        if (r == 0) {
            return -1 - pick(3);
        }
        if (r == 1) {
            return bound + pick(3);
        }
        if (r == 2) {
            int[] odd = {Integer.MIN_VALUE, Integer.MAX_VALUE, 32, 64, -32, 1 << 20};
            return odd[pick(odd.length)];
        }
        return bound > 0 ? pick(bound) : 0;
    }

    private static void due(int run, int call, String text, long got, long want) {
        if (got != want) {
            wrong++;
            if (wrong < 30) {
                System.out.println("run " + run + ", call " + call + ": " + text + " answered " + got + ", due is " + want);
            }
        }
    }

    static final class Claim {
        final int place;
        final int from;
        final int to;
        final int weight;

        Claim(int place, int from, int to, int weight) {
            this.place = place;
            this.from = from;
            this.to = to;
            this.weight = weight;
        }

        int costs(int t, int in) {
            return t >= from && t < to && in != place ? weight : 0;
        }
    }

    static final class Person {
        int home;
        boolean[] key = new boolean[12];
        int[] like = {5, 5, 5, 5, 5, 5, 5, 5, 5, 5, 5, 5};
        List<Claim> duties = new ArrayList<>();
        Claim bend;
        boolean gone;
        int[] day;
        int[] ends;
        int price;
        int[] learned = {-1, -1, -1, -1, -1, -1, -1, -1, -1, -1, -1, -1};
    }

    static final class Meet {
        int who;
        Claim claim;
        int today;
        int ever;
        int seen;
    }

    static final class Shelf {
        int who = -1;
        int sort;
        long[] row;
    }

    /** The second program. */
    static final class Model {
        List<int[]> places = new ArrayList<>();
        List<int[]> ways = new ArrayList<>();
        List<Person> folk = new ArrayList<>();
        List<Meet> meetings = new ArrayList<>();
        Shelf[] shelves = new Shelf[8];
        boolean[] locked = new boolean[12];
        int[] no = new int[8];
        boolean begun;
        int now;
        int days;
        int facts;
        int plans;
        int fault;
        int faulty = -1;
        long[][] memo;

        Model() {
            for (int s = 0; s < 8; s++) {
                shelves[s] = new Shelf();
            }
        }

        int refuse(int n) {
            no[-n]++;
            return n;
        }

        boolean isPlace(int p) {
            return p >= 0 && p < places.size();
        }

        boolean isFolk(int f) {
            return f >= 0 && f < folk.size();
        }

        boolean here(int f) {
            return isFolk(f) && !folk.get(f).gone;
        }

        static boolean span(int from, int to) {
            return from >= 0 && from < to && to <= 48;
        }

        int direct(int a, int b) {
            int best = 99;
            for (int[] w : ways) {
                if (w[0] == a && w[1] == b || w[0] == b && w[1] == a) {
                    best = Math.min(best, w[2]);
                }
            }
            return best;
        }

        int far(int a, int b) {
            if (!isPlace(a) || !isPlace(b)) {
                return -1;
            }
            int[] d = new int[places.size()];
            java.util.Arrays.fill(d, 9999);
            d[a] = 0;
            for (int round = 0; round < d.length; round++) {
                for (int[] w : ways) {
                    d[w[0]] = Math.min(d[w[0]], d[w[1]] + w[2]);
                    d[w[1]] = Math.min(d[w[1]], d[w[0]] + w[2]);
                }
            }
            return d[b] == 9999 ? -1 : d[b];
        }

        int place(int seats, int from, int to) {
            if (seats < 1 || seats > 9 || !span(from, to) || begun) {
                return refuse(-6);
            }
            if (places.size() == 12) {
                return refuse(-7);
            }
            places.add(new int[] {seats, from, to});
            return places.size() - 1;
        }

        int way(int a, int b, int ticks) {
            if (!isPlace(a) || !isPlace(b)) {
                return refuse(-1);
            }
            if (a == b || ticks < 1 || ticks > 9 || begun) {
                return refuse(-6);
            }
            if (ways.size() == 30) {
                return refuse(-7);
            }
            ways.add(new int[] {a, b, ticks});
            return 1;
        }

        int folk(int home) {
            if (!isPlace(home)) {
                return refuse(-1);
            }
            if (begun) {
                return refuse(-6);
            }
            if (folk.size() == 20) {
                return refuse(-7);
            }
            Person f = new Person();
            f.home = home;
            folk.add(f);
            return folk.size() - 1;
        }

        int meeting(int who, int place, int from, int to, int weight) {
            int count = 0;
            for (int bit = 0; bit < 32; bit++) {
                if ((who & 1 << bit) != 0) {
                    count++;
                    if (!here(bit)) {
                        return refuse(-1);
                    }
                }
            }
            if (!isPlace(place)) {
                return refuse(-1);
            }
            if (count < 2 || !span(from, to) || weight < 1 || weight > 100 || begun) {
                return refuse(-6);
            }
            if (meetings.size() == 10) {
                return refuse(-7);
            }
            Meet m = new Meet();
            m.who = who;
            m.claim = new Claim(place, from, to, weight);
            meetings.add(m);
            return meetings.size() - 1;
        }

        int row(int s, int sort, int n) {
            if (s < 0 || s > 7) {
                return refuse(-1);
            }
            if (n < 0) {
                return refuse(-4);
            }
            if (sort < 0 || sort > 3) {
                return refuse(-6);
            }
            if (n > 60) {
                return refuse(-7);
            }
            Shelf shelf = new Shelf();
            shelf.sort = sort;
            shelf.row = new long[n];
            shelves[s] = shelf;
            return 1;
        }

        int wantRow(int s) {
            if (s < 0 || s > 7) {
                return -1;
            }
            if (shelves[s].who >= 0) {
                return -2;
            }
            return shelves[s].row == null ? -3 : 0;
        }

        int set(int s, int i, long v) {
            int n = wantRow(s);
            if (n != 0) {
                return refuse(n);
            }
            if (i < 0 || i >= shelves[s].row.length) {
                return refuse(-5);
            }
            int bits = 8 << shelves[s].sort;
            shelves[s].row[i] = v << 64 - bits >> 64 - bits;
            return 1;
        }

        int copy(int p, int q, int i, int j, int n) {
            int a = wantRow(p);
            int b = wantRow(q);
            if (a == -1 || b == -1) {
                return refuse(-1);
            }
            if (a == -2 || b == -2 || a == 0 && b == 0 && shelves[p].sort != shelves[q].sort) {
                return refuse(-2);
            }
            if (a != 0 || b != 0) {
                return refuse(-3);
            }
            if (n < 0) {
                return refuse(-4);
            }
            if (i < 0 || j < 0 || (long) i + n > shelves[p].row.length || (long) j + n > shelves[q].row.length) {
                return refuse(-5);
            }
            long[] old = shelves[p].row.clone();
            for (int k = 0; k < n; k++) {
                shelves[q].row[j + k] = old[i + k];
            }
            return 1;
        }

        long element(int s, int i) {
            if (wantRow(s) != 0 || i < 0 || i >= shelves[s].row.length) {
                return 0;
            }
            return shelves[s].row[i];
        }

        int show(int s, int who) {
            if (s < 0 || s > 7 || who != -1 && !isFolk(who)) {
                return refuse(-1);
            }
            shelves[s] = new Shelf();
            shelves[s].who = who;
            return who == -1 ? 0 : 1;
        }

        int holds(int s) {
            if (s < 0 || s > 7) {
                return -1;
            }
            return shelves[s].row != null ? 100 + shelves[s].sort : shelves[s].who;
        }

        int homeIn(int s) {
            if (s < 0 || s > 7) {
                return refuse(-1);
            }
            if (shelves[s].row != null) {
                return refuse(-2);
            }
            return shelves[s].who < 0 ? refuse(-3) : folk.get(shelves[s].who).home;
        }

        int faultOf(List<Claim> earlier, Claim c) {
            if (!isPlace(c.place)) {
                return 2;
            }
            if (!span(c.from, c.to)) {
                return 3;
            }
            if (c.weight < 1 || c.weight > 100) {
                return 4;
            }
            Claim ahead = null;
            Claim behind = null;
            for (Claim e : earlier) {
                for (int t = 0; t < 48; t++) {
                    if (t >= e.from && t < e.to && t >= c.from && t < c.to) {
                        return 5;
                    }
                }
                if (e.to <= c.from && (ahead == null || e.to > ahead.to)) {
                    ahead = e;
                }
                if (e.from >= c.to && (behind == null || e.from < behind.from)) {
                    behind = e;
                }
            }
            if (ahead != null && (far(ahead.place, c.place) < 0 || far(ahead.place, c.place) > c.from - ahead.to)) {
                return 6;
            }
            if (behind != null && (far(behind.place, c.place) < 0 || far(behind.place, c.place) > behind.from - c.to)) {
                return 6;
            }
            return 0;
        }

        int duties(int who, int s) {
            int n = here(who) ? wantRow(s) : -1;
            if (n != 0) {
                return refuse(n);
            }
            long[] row = shelves[s].row;
            fault = 0;
            faulty = -1;
            if (row.length % 4 != 0 || row.length > 48) {
                fault = 1;
                faulty = 0;
                return refuse(-6);
            }
            List<Claim> told = new ArrayList<>();
            for (int d = 0; 4 * d < row.length; d++) {
                Claim c = new Claim((int) row[4 * d], (int) row[4 * d + 1], (int) row[4 * d + 2], (int) row[4 * d + 3]);
                int f = faultOf(told, c);
                if (f != 0) {
                    fault = f;
                    faulty = d;
                    return refuse(-6);
                }
                told.add(c);
            }
            folk.get(who).duties = told;
            return told.size();
        }

        int fault(int what) {
            return what == 0 ? fault : what == 1 ? faulty : -1;
        }

        int likes(int who, int s) {
            int n = here(who) ? wantRow(s) : -1;
            if (n != 0) {
                return refuse(n);
            }
            int[] like = folk.get(who).like.clone();
            int count = Math.min(places.size(), shelves[s].row.length);
            for (int p = 0; p < count; p++) {
                like[p] = (int) shelves[s].row[p];
                if (like[p] < 0 || like[p] > 9) {
                    return refuse(-6);
                }
            }
            folk.get(who).like = like;
            return count;
        }

        int key(int who, int place, boolean has) {
            if (!here(who) || !isPlace(place)) {
                return refuse(-1);
            }
            boolean was = folk.get(who).key[place];
            folk.get(who).key[place] = has;
            return was == has ? 0 : 1;
        }

        int begin() {
            if (begun) {
                return refuse(-6);
            }
            begun = true;
            return newDay();
        }

        int newDay() {
            now = 0;
            locked = new boolean[12];
            for (Person f : folk) {
                f.day = null;
                f.bend = null;
            }
            for (Meet m : meetings) {
                m.today = 0;
                m.seen = 0;
            }
            int count = 0;
            for (Person f : folk) {
                if (!f.gone) {
                    plan(f);
                    count++;
                }
            }
            return count;
        }

        int tick(int n) {
            if (!begun || n < 1 || n > 48) {
                return refuse(-6);
            }
            if (days + (now + n >= 48 ? 1 : 0) > 20) {
                return refuse(-7);
            }
            for (int i = 0; i < n; i++) {
                live();
            }
            return now;
        }

        void live() {
            List<int[]> news = new ArrayList<>();
            for (int g = 0; g < folk.size(); g++) {
                for (int f = 0; f < folk.size(); f++) {
                    int in = where(f, now);
                    if (in < 0 || in >= 100 || in != where(g, now)) {
                        continue;
                    }
                    for (int fact = 0; fact < facts; fact++) {
                        if (knows(f, fact) >= 0 && knows(g, fact) < 0) {
                            news.add(new int[] {g, fact});
                        }
                    }
                }
            }
            for (int[] told : news) {
                folk.get(told[0]).learned[told[1]] = 48 * days + now;
            }
            for (Meet m : meetings) {
                int there = 0;
                for (int f = 0; f < folk.size(); f++) {
                    if ((m.who & 1 << f) != 0 && where(f, now) == m.claim.place) {
                        there |= 1 << f;
                    }
                }
                if (now >= m.claim.from && now < m.claim.to) {
                    m.seen |= there;
                    if (there == m.who) {
                        m.today++;
                        m.ever++;
                    }
                }
            }
            now++;
            if (now == 48) {
                days++;
                newDay();
            }
        }

        int bend(int who, int place, int from, int to) {
            if (!here(who) || !isPlace(place)) {
                return refuse(-1);
            }
            if (!span(from, to) || !begun) {
                return refuse(-6);
            }
            folk.get(who).bend = new Claim(place, from, to, 200);
            return plan(folk.get(who));
        }

        int lock(int place, boolean on) {
            if (!isPlace(place)) {
                return refuse(-1);
            }
            if (!begun) {
                return refuse(-6);
            }
            if (locked[place] == on) {
                return 0;
            }
            locked[place] = on;
            int count = 0;
            for (int f = 0; on && f < folk.size(); f++) {
                boolean due = false;
                for (int t = now; t < 48; t++) {
                    due |= where(f, t) == place;
                }
                if (due) {
                    plan(folk.get(f));
                    count++;
                }
            }
            return count;
        }

        int again(int who) {
            if (!here(who)) {
                return refuse(-1);
            }
            return begun ? plan(folk.get(who)) : refuse(-6);
        }

        int gone(int who) {
            if (!here(who)) {
                return refuse(-1);
            }
            if (!begun) {
                return refuse(-6);
            }
            folk.get(who).gone = true;
            for (int t = now; t < 48; t++) {
                folk.get(who).day[t] = -1;
            }
            return status(3);
        }

        int happen(int place) {
            if (!isPlace(place)) {
                return refuse(-1);
            }
            if (!begun) {
                return refuse(-6);
            }
            if (facts == 12) {
                return refuse(-7);
            }
            for (int f = 0; f < folk.size(); f++) {
                if (where(f, now) == place || where(f, now) == 100 + place) {
                    folk.get(f).learned[facts] = 48 * days + now;
                }
            }
            return facts++;
        }

        int where(int who, int t) {
            if (!isFolk(who) || t < 0 || t > 47 || folk.get(who).day == null) {
                return -1;
            }
            return folk.get(who).day[t];
        }

        int cost(int who) {
            return begun && here(who) ? folk.get(who).price : -1;
        }

        int seated(int place, int t) {
            if (!begun || !isPlace(place) || t < 0 || t > 47) {
                return -1;
            }
            int count = 0;
            for (int f = 0; f < folk.size(); f++) {
                count += where(f, t) == place ? 1 : 0;
            }
            return count;
        }

        int knows(int who, int fact) {
            return isFolk(who) && fact >= 0 && fact < facts ? folk.get(who).learned[fact] : -1;
        }

        int met(int meeting, int what) {
            if (meeting < 0 || meeting >= meetings.size() || what < 0 || what > 2) {
                return -1;
            }
            Meet m = meetings.get(meeting);
            return what == 0 ? m.today : what == 1 ? m.ever : m.seen;
        }

        int status(int what) {
            int here = 0;
            int bent = 0;
            int shut = 0;
            for (Person f : folk) {
                here += f.gone ? 0 : 1;
                bent += f.bend != null && !f.gone ? 1 : 0;
            }
            for (boolean l : locked) {
                shut += l ? 1 : 0;
            }
            int[] all = {places.size(), ways.size(), folk.size(), here, meetings.size(), now, days, facts, bent, shut,
                plans, no[1], no[2], no[3], no[4], no[5], no[6], no[7]};
            return what >= 0 && what < all.length ? all[what] : -1;
        }

        // ---- plans

        int claimsOf(Person f, int t, int in) {
            int sum = f.bend == null ? 0 : f.bend.costs(t, in);
            for (Claim c : f.duties) {
                sum += c.costs(t, in);
            }
            for (Meet m : meetings) {
                if ((m.who & 1 << folk.indexOf(f)) != 0) {
                    sum += m.claim.costs(t, in);
                }
            }
            return sum;
        }

        boolean mayBeIn(Person f, int p, int t) {
            int[] place = places.get(p);
            if (locked[p] || !(t >= place[1] && t < place[2] || f.key[p])) {
                return false;
            }
            int others = 0;
            for (Person g : folk) {
                others += g != f && g.day != null && g.day[t] == p ? 1 : 0;
            }
            return others < place[0];
        }

        /** What the ticks of one choice cost: choice 0 is IN, 1 OUT, 2 + q the way to q. */
        int costOf(Person f, int t, int p, int choice) {
            if (choice == 0) {
                return 9 - f.like[p] + claimsOf(f, t, p) + (t == 47 && p != f.home ? 300 : 0);
            }
            if (choice == 1) {
                return 20 + claimsOf(f, t, -1) + (t == 47 && p != f.home ? 300 : 0);
            }
            int sum = 0;
            for (int u = t; u < Math.min(48, t + direct(p, choice - 2)); u++) {
                sum += 3 + claimsOf(f, u, -1) + (u == 47 ? 300 : 0);
            }
            return sum;
        }

        boolean isChoice(Person f, int t, int p, int choice) {
            return choice == 1 || choice == 0 && mayBeIn(f, p, t) || choice >= 2 && direct(p, choice - 2) < 99;
        }

        /** The least cost from here on, with the first choice of it in the highest part. */
        long best(Person f, int t, int p) {
            if (t >= 48) {
                return 0;
            }
            if (memo[t][p] >= 0) {
                return memo[t][p];
            }
            int least = Integer.MAX_VALUE;
            int first = 0;
            for (int choice = places.size() + 1; choice >= 0; choice--) {
                if (!isChoice(f, t, p, choice)) {
                    continue;
                }
                int q = choice < 2 ? p : choice - 2;
                int rest = (int) best(f, t + (choice < 2 ? 1 : direct(p, q)), q);
                int sum = rest + costOf(f, t, p, choice);
                if (sum <= least) {
                    least = sum;
                    first = choice;
                }
            }
            memo[t][p] = (long) first << 32 | least;
            return memo[t][p];
        }

        /** All plans one by one, in the order of choices; the first of the cheapest stays. */
        void tryAll(Person f, int t, int p, int paid, List<Integer> choices) {
            if (t >= 48) {
                if (paid < triedCost) {
                    triedCost = paid;
                    tried = new ArrayList<>(choices);
                }
                return;
            }
            for (int choice = 0; choice < places.size() + 2; choice++) {
                if (isChoice(f, t, p, choice)) {
                    int q = choice < 2 ? p : choice - 2;
                    choices.add(choice);
                    tryAll(f, t + (choice < 2 ? 1 : direct(p, q)), q, paid + costOf(f, t, p, choice), choices);
                    choices.remove(choices.size() - 1);
                }
            }
        }

        int triedCost;
        List<Integer> tried;

        int plan(Person f) {
            plans++;
            if (f.day == null) {
                f.day = new int[48];
                f.ends = new int[48];
            }
            int t = now;
            int p = f.home;
            int price = 0;
            if (now > 0) {
                int code = f.day[now - 1];
                p = code < 100 ? code : code < 200 ? code - 100 : (code - 200) % 12;
                for (; code >= 200 && t < Math.min(48, f.ends[now - 1]); t++) {
                    price += 3 + claimsOf(f, t, -1) + (t == 47 ? 300 : 0);
                }
            }
            for (int u = t; u < 48; u++) {
                f.day[u] = -1;
            }
            memo = new long[49][12];
            for (long[] m : memo) {
                java.util.Arrays.fill(m, -1);
            }
            price += (int) best(f, t, p);
            if (t >= 43) {
                triedCost = Integer.MAX_VALUE;
                tried = null;
                tryAll(f, t, p, 0, new ArrayList<>());
            } else {
                tried = null;
            }
            int step = 0;
            while (t < 48) {
                int choice = tried != null ? tried.get(step) : (int) (best(f, t, p) >> 32);
                step++;
                int q = choice < 2 ? p : choice - 2;
                int end = choice < 2 ? t + 1 : t + direct(p, q);
                for (int u = t; u < Math.min(48, end); u++) {
                    f.day[u] = choice == 0 ? p : choice == 1 ? 100 + p : 200 + 12 * p + q;
                    f.ends[u] = end;
                }
                t = end;
                p = q;
            }
            f.price = price;
            return price;
        }
    }

    /** One call of both, by its number; what both answered is compared. */
    private static void call(int run, int call, TownFolk x, Model m, int sort) {
        int np = m.places.size();
        int nf = m.folk.size();
        int a = among(nf);
        int p = among(np);
        int q = among(np);
        int s = among(8);
        int from = among(48);
        int to = pick(10) == 0 ? among(50) : Math.max(0, Math.min(47, from)) + 1 + pick(12);
        boolean on = pick(3) > 0;
        switch (sort) {
            case 0: {
                int seats = pick(3) == 0 ? among(11) : 1 + pick(2);
                if (pick(2) == 0) {
                    from = 0;
                    to = 48;
                }
                due(run, call, "place", x.place(seats, from, to), m.place(seats, from, to));
                break;
            }
            case 1: {
                int ticks = pick(6) == 0 ? among(11) : 1 + pick(4);
                due(run, call, "way", x.way(p, q, ticks), m.way(p, q, ticks));
                break;
            }
            case 2: due(run, call, "folk", x.folk(p), m.folk(p)); break;
            case 3: {
                int who = pick(10) == 0 ? among(1 << 20) : 1 << pick(Math.max(1, nf)) | 1 << pick(Math.max(1, nf))
                    | (pick(2) == 0 ? 1 << pick(Math.max(1, nf)) : 0);
                int weight = among(102);
                due(run, call, "meeting", x.meeting(who, p, from, to, weight), m.meeting(who, p, from, to, weight));
                break;
            }
            case 4: writtenDay(run, call, x, m, a, s); break;
            case 5: writtenLikes(run, call, x, m, a, s); break;
            case 6: due(run, call, "key", x.key(a, p, on), m.key(a, p, on)); break;
            case 7: due(run, call, "begin", x.begin(), m.begin()); break;
            case 8: {
                int n = pick(3) == 0 ? among(50) : 1 + pick(6);
                due(run, call, "tick", x.tick(n), m.tick(n));
                break;
            }
            case 9: due(run, call, "bend", x.bend(a, p, from, to), m.bend(a, p, from, to)); break;
            case 10: due(run, call, "lock", x.lock(p, on), m.lock(p, on)); break;
            case 11: due(run, call, "again", x.again(a), m.again(a)); break;
            case 12: due(run, call, "gone", x.gone(a), m.gone(a)); break;
            case 13: due(run, call, "happen", x.happen(p), m.happen(p)); break;
            case 14: shelfCall(run, call, x, m, s); break;
            default: questions(run, call, x, m, a, p, q); break;
        }
    }

    private static void questions(int run, int call, TownFolk x, Model m, int a, int p, int q) {
        int t = among(48);
        int fact = among(12);
        int what = among(18);
        due(run, call, "where", x.where(a, t), m.where(a, t));
        due(run, call, "cost", x.cost(a), m.cost(a));
        due(run, call, "seated", x.seated(p, t), m.seated(p, t));
        due(run, call, "knows", x.knows(a, fact), m.knows(a, fact));
        due(run, call, "met", x.met(fact, what), m.met(fact, what));
        due(run, call, "far", x.far(p, q), m.far(p, q));
        due(run, call, "status", x.status(what), m.status(what));
        due(run, call, "fault", x.fault(what), m.fault(what));
    }

    private static void shelfCall(int run, int call, TownFolk x, Model m, int s) {
        int z = among(8);
        int i = among(8);
        int j = among(8);
        int n = among(6);
        int who = pick(3) == 0 ? -1 : among(m.folk.size());
        long v = pick(2) == 0 ? pick(20) : seed;
        switch (pick(7)) {
            case 0: {
                int size = pick(4) == 0 ? among(62) : pick(12);
                int sort = pick(3) == 0 ? among(5) : 1;
                due(run, call, "row", x.row(s, sort, size), m.row(s, sort, size));
                break;
            }
            case 1: due(run, call, "copy", x.copy(s, z, i, j, n), m.copy(s, z, i, j, n)); break;
            case 2: due(run, call, "show", x.show(s, who), m.show(s, who)); break;
            case 3: due(run, call, "homeIn", x.homeIn(s), m.homeIn(s)); break;
            case 4: due(run, call, "holds", x.holds(s), m.holds(s)); break;
            default: due(run, call, "set", x.set(s, i, v), m.set(s, i, v)); break;
        }
        due(run, call, "element", x.element(s, i), m.element(s, i));
    }

    private static void writtenDay(int run, int call, TownFolk x, Model m, int who, int s) {
        int duties = pick(5);
        int size = pick(20) == 0 ? pick(61) : 4 * duties;
        int sort = pick(4);
        due(run, call, "row", x.row(s, sort, size), m.row(s, sort, size));
        int start = 0;
        for (int i = 0; i + 3 < size; i += 4) {
            int from = pick(12) == 0 ? among(48) : start + pick(8);
            int[] cells = {among(m.places.size()), from, from + 1 + pick(8), pick(12) == 0 ? among(102) : 1 + pick(100)};
            start = cells[2] + (pick(8) == 0 ? -1 : pick(4));
            for (int k = 0; k < 4; k++) {
                due(run, call, "set", x.set(s, i + k, cells[k]), m.set(s, i + k, cells[k]));
            }
        }
        if (pick(6) == 0 && size > 8) {
            due(run, call, "copy", x.copy(s, s, 0, 4, 4), m.copy(s, s, 0, 4, 4));
        }
        due(run, call, "duties", x.duties(who, s), m.duties(who, s));
        due(run, call, "fault(0)", x.fault(0), m.fault(0));
        due(run, call, "fault(1)", x.fault(1), m.fault(1));
    }

    private static void writtenLikes(int run, int call, TownFolk x, Model m, int who, int s) {
        int size = pick(3) == 0 ? pick(15) : 12;
        int sort = pick(4);
        due(run, call, "row", x.row(s, sort, size), m.row(s, sort, size));
        int high = pick(2);
        for (int i = 0; i < size; i++) {
            int like = pick(40) == 0 ? among(11) : high == 1 ? 5 + pick(5) : pick(10);
            due(run, call, "set", x.set(s, i, like), m.set(s, i, like));
        }
        due(run, call, "likes", x.likes(who, s), m.likes(who, s));
    }

    private static void lookAtAll(int run, int call, TownFolk x, Model m) {
        for (int f = 0; f < m.folk.size(); f++) {
            for (int t = 0; t < 48; t++) {
                due(run, call, "where(" + f + ", " + t + ")", x.where(f, t), m.where(f, t));
            }
            due(run, call, "cost(" + f + ")", x.cost(f), m.cost(f));
            for (int fact = 0; fact < 12; fact++) {
                due(run, call, "knows(" + f + ", " + fact + ")", x.knows(f, fact), m.knows(f, fact));
            }
        }
        for (int p = 0; p < m.places.size(); p++) {
            for (int t = 0; t < 48; t++) {
                due(run, call, "seated(" + p + ", " + t + ")", x.seated(p, t), m.seated(p, t));
            }
            for (int q = 0; q < m.places.size(); q++) {
                due(run, call, "far", x.far(p, q), m.far(p, q));
            }
        }
        for (int k = 0; k < m.meetings.size(); k++) {
            for (int what = 0; what < 3; what++) {
                due(run, call, "met(" + k + ", " + what + ")", x.met(k, what), m.met(k, what));
            }
        }
        for (int s = 0; s < 8; s++) {
            due(run, call, "holds", x.holds(s), m.holds(s));
            for (int i = 0; i < 60; i++) {
                due(run, call, "element", x.element(s, i), m.element(s, i));
            }
        }
        for (int what = -1; what < 19; what++) {
            due(run, call, "status(" + what + ")", x.status(what), m.status(what));
        }
    }

    private static void oneRun(int run) {
        TownFolk x = new TownFolk();
        Model m = new Model();
        int wantedPlaces = 1 + pick(run % 5 == 0 ? 13 : 5);
        int wantedFolk = 1 + pick(run % 5 == 0 ? 21 : 6);
        int call = 0;
        for (; call < 60; call++) {
            int sort = call < wantedPlaces ? 0 : call < 3 * wantedPlaces ? 1 : call < 3 * wantedPlaces + wantedFolk ? 2
                : pick(40) == 0 ? pick(16) : 3 + pick(4);
            call(run, call, x, m, sort == 7 && call < 50 ? 15 : sort);
        }
        call(run, call, x, m, 7);
        int calls = run % 5 == 0 ? 120 : CALLS;
        for (; call < calls; call++) {
            int r = pick(100);
            int sort = r < 25 ? 8 : r < 40 ? 9 : r < 52 ? 10 : r < 60 ? 11 : r < 61 ? 12 : r < 66 ? 13 : r < 76 ? 14
                : r < 80 ? 4 : r < 83 ? 5 : r < 87 ? 6 : r < 89 ? pick(16) : 15;
            call(run, call, x, m, sort);
            if (call % 16 == 0) {
                lookAtAll(run, call, x, m);
            }
        }
        lookAtAll(run, call, x, m);
    }

    public static void main(String[] args) {
        for (int run = 0; run < RUNS; run++) {
            oneRun(run);
        }
        System.out.println("ModelTest: " + RUNS + " runs, " + wrong + " answers not as due");
        if (wrong != 0) {
            System.exit(1);
        }
    }
}
