import java.util.ArrayList;
import java.util.Arrays;
import java.util.List;

/**
 * A second program, written after the document in another way: it keeps no seats, weighs each tick claim
 * by claim, and tries out all plans where few ticks are left.
 */
final class Model {
    static final class Claim {
        final int place;
        final int from;
        final int to;
        final int weight;

        Claim(int place, int from, int to, int weight) {
            this.place = place;
            this.from = from;
            this.to = to;
            this.weight = weight;
        }

        int costs(int t, int in) {
            return t >= from && t < to && in != place ? weight : 0;
        }
    }

    static final class Person {
        int home;
        boolean[] key = new boolean[12];
        int[] like = {5, 5, 5, 5, 5, 5, 5, 5, 5, 5, 5, 5};
        List<Claim> duties = new ArrayList<>();
        Claim bend;
        boolean gone;
        int[] day;
        int[] ends;
        int price;
        int[] learned = {-1, -1, -1, -1, -1, -1, -1, -1, -1, -1, -1, -1};
    }

    static final class Meet {
        int who;
        Claim claim;
        int today;
        int ever;
        int seen;
    }

    static final class Shelf {
        int who = -1;
        int sort;
        long[] row;
    }

    List<int[]> places = new ArrayList<>();
    List<int[]> ways = new ArrayList<>();
    List<Person> folk = new ArrayList<>();
    List<Meet> meetings = new ArrayList<>();
    Shelf[] shelves = new Shelf[8];
    boolean[] locked = new boolean[12];
    int[] no = new int[8];
    boolean begun;
    int now;
    int days;
    int facts;
    int plans;
    int fault;
    int faulty = -1;
    long[][] memo;

    Model() {
        for (int s = 0; s < 8; s++) {
            shelves[s] = new Shelf();
        }
    }

    int refuse(int n) {
        no[-n]++;
        return n;
    }

    boolean isPlace(int p) {
        return p >= 0 && p < places.size();
    }

    boolean isFolk(int f) {
        return f >= 0 && f < folk.size();
    }

    boolean here(int f) {
        return isFolk(f) && !folk.get(f).gone;
    }

    static boolean span(int from, int to) {
        return from >= 0 && from < to && to <= 48;
    }

    int direct(int a, int b) {
        int best = 99;
        for (int[] w : ways) {
            if (w[0] == a && w[1] == b || w[0] == b && w[1] == a) {
                best = Math.min(best, w[2]);
            }
        }
        return best;
    }

    int far(int a, int b) {
        if (!isPlace(a) || !isPlace(b)) {
            return -1;
        }
        int[] d = new int[places.size()];
        Arrays.fill(d, 9999);
        d[a] = 0;
        for (int round = 0; round < d.length; round++) {
            for (int[] w : ways) {
                d[w[0]] = Math.min(d[w[0]], d[w[1]] + w[2]);
                d[w[1]] = Math.min(d[w[1]], d[w[0]] + w[2]);
            }
        }
        return d[b] == 9999 ? -1 : d[b];
    }

    int place(int seats, int from, int to) {
        if (seats < 1 || seats > 9 || !span(from, to) || begun) {
            return refuse(-6);
        }
        if (places.size() == 12) {
            return refuse(-7);
        }
        places.add(new int[] {seats, from, to});
        return places.size() - 1;
    }

    int way(int a, int b, int ticks) {
        if (!isPlace(a) || !isPlace(b)) {
            return refuse(-1);
        }
        if (a == b || ticks < 1 || ticks > 9 || begun) {
            return refuse(-6);
        }
        if (ways.size() == 30) {
            return refuse(-7);
        }
        ways.add(new int[] {a, b, ticks});
        return 1;
    }

    int folk(int home) {
        if (!isPlace(home)) {
            return refuse(-1);
        }
        if (begun) {
            return refuse(-6);
        }
        if (folk.size() == 20) {
            return refuse(-7);
        }
        Person f = new Person();
        f.home = home;
        folk.add(f);
        return folk.size() - 1;
    }

    int meeting(int who, int place, int from, int to, int weight) {
        int count = 0;
        for (int bit = 0; bit < 32; bit++) {
            if ((who & 1 << bit) != 0) {
                count++;
                if (!here(bit)) {
                    return refuse(-1);
                }
            }
        }
        if (!isPlace(place)) {
            return refuse(-1);
        }
        if (count < 2 || !span(from, to) || weight < 1 || weight > 100 || begun) {
            return refuse(-6);
        }
        if (meetings.size() == 10) {
            return refuse(-7);
        }
        Meet m = new Meet();
        m.who = who;
        m.claim = new Claim(place, from, to, weight);
        meetings.add(m);
        return meetings.size() - 1;
    }

    int row(int s, int sort, int n) {
        if (s < 0 || s > 7) {
            return refuse(-1);
        }
        if (n < 0) {
            return refuse(-4);
        }
        if (sort < 0 || sort > 3) {
            return refuse(-6);
        }
        if (n > 60) {
            return refuse(-7);
        }
        Shelf shelf = new Shelf();
        shelf.sort = sort;
        shelf.row = new long[n];
        shelves[s] = shelf;
        return 1;
    }

    int wantRow(int s) {
        if (s < 0 || s > 7) {
            return -1;
        }
        if (shelves[s].who >= 0) {
            return -2;
        }
        return shelves[s].row == null ? -3 : 0;
    }

    int set(int s, int i, long v) {
        int n = wantRow(s);
        if (n != 0) {
            return refuse(n);
        }
        if (i < 0 || i >= shelves[s].row.length) {
            return refuse(-5);
        }
        int bits = 8 << shelves[s].sort;
        shelves[s].row[i] = v << 64 - bits >> 64 - bits;
        return 1;
    }

    int copy(int p, int q, int i, int j, int n) {
        int a = wantRow(p);
        int b = wantRow(q);
        if (a == -1 || b == -1) {
            return refuse(-1);
        }
        if (a == -2 || b == -2 || a == 0 && b == 0 && shelves[p].sort != shelves[q].sort) {
            return refuse(-2);
        }
        if (a != 0 || b != 0) {
            return refuse(-3);
        }
        if (n < 0) {
            return refuse(-4);
        }
        if (i < 0 || j < 0 || (long) i + n > shelves[p].row.length || (long) j + n > shelves[q].row.length) {
            return refuse(-5);
        }
        long[] old = shelves[p].row.clone();
        for (int k = 0; k < n; k++) {
            shelves[q].row[j + k] = old[i + k];
        }
        return 1;
    }

    long element(int s, int i) {
        if (wantRow(s) != 0 || i < 0 || i >= shelves[s].row.length) {
            return 0;
        }
        return shelves[s].row[i];
    }

    int show(int s, int who) {
        if (s < 0 || s > 7 || who != -1 && !isFolk(who)) {
            return refuse(-1);
        }
        shelves[s] = new Shelf();
        shelves[s].who = who;
        return who == -1 ? 0 : 1;
    }

    int holds(int s) {
        if (s < 0 || s > 7) {
            return -1;
        }
        return shelves[s].row != null ? 100 + shelves[s].sort : shelves[s].who;
    }

    int homeIn(int s) {
        if (s < 0 || s > 7) {
            return refuse(-1);
        }
        if (shelves[s].row != null) {
            return refuse(-2);
        }
        return shelves[s].who < 0 ? refuse(-3) : folk.get(shelves[s].who).home;
    }

    int faultOf(List<Claim> earlier, Claim c) {
        if (!isPlace(c.place)) {
            return 2;
        }
        if (!span(c.from, c.to)) {
            return 3;
        }
        if (c.weight < 1 || c.weight > 100) {
            return 4;
        }
        Claim ahead = null;
        Claim behind = null;
        for (Claim e : earlier) {
            for (int t = 0; t < 48; t++) {
                if (t >= e.from && t < e.to && t >= c.from && t < c.to) {
                    return 5;
                }
            }
            if (e.to <= c.from && (ahead == null || e.to > ahead.to)) {
                ahead = e;
            }
            if (e.from >= c.to && (behind == null || e.from < behind.from)) {
                behind = e;
            }
        }
        if (ahead != null && (far(ahead.place, c.place) < 0 || far(ahead.place, c.place) > c.from - ahead.to)) {
            return 6;
        }
        if (behind != null && (far(behind.place, c.place) < 0 || far(behind.place, c.place) > behind.from - c.to)) {
            return 6;
        }
        return 0;
    }

    int duties(int who, int s) {
        int n = here(who) ? wantRow(s) : -1;
        if (n != 0) {
            return refuse(n);
        }
        long[] row = shelves[s].row;
        fault = 0;
        faulty = -1;
        if (row.length % 4 != 0 || row.length > 48) {
            fault = 1;
            faulty = 0;
            return refuse(-6);
        }
        List<Claim> told = new ArrayList<>();
        for (int d = 0; 4 * d < row.length; d++) {
            Claim c = new Claim((int) row[4 * d], (int) row[4 * d + 1], (int) row[4 * d + 2], (int) row[4 * d + 3]);
            int f = faultOf(told, c);
            if (f != 0) {
                fault = f;
                faulty = d;
                return refuse(-6);
            }
            told.add(c);
        }
        folk.get(who).duties = told;
        return told.size();
    }

    int fault(int what) {
        return what == 0 ? fault : what == 1 ? faulty : -1;
    }

    int likes(int who, int s) {
        int n = here(who) ? wantRow(s) : -1;
        if (n != 0) {
            return refuse(n);
        }
        int[] like = folk.get(who).like.clone();
        int count = Math.min(places.size(), shelves[s].row.length);
        for (int p = 0; p < count; p++) {
            like[p] = (int) shelves[s].row[p];
            if (like[p] < 0 || like[p] > 9) {
                return refuse(-6);
            }
        }
        folk.get(who).like = like;
        return count;
    }

    int key(int who, int place, boolean has) {
        if (!here(who) || !isPlace(place)) {
            return refuse(-1);
        }
        boolean was = folk.get(who).key[place];
        folk.get(who).key[place] = has;
        return was == has ? 0 : 1;
    }

    int begin() {
        if (begun) {
            return refuse(-6);
        }
        begun = true;
        return newDay();
    }

    int newDay() {
        now = 0;
        locked = new boolean[12];
        for (Person f : folk) {
            f.day = null;
            f.bend = null;
        }
        for (Meet m : meetings) {
            m.today = 0;
            m.seen = 0;
        }
        int count = 0;
        for (Person f : folk) {
            if (!f.gone) {
                plan(f);
                count++;
            }
        }
        return count;
    }

    int tick(int n) {
        if (!begun || n < 1 || n > 48) {
            return refuse(-6);
        }
        if (days + (now + n >= 48 ? 1 : 0) > 20) {
            return refuse(-7);
        }
        for (int i = 0; i < n; i++) {
            live();
        }
        return now;
    }

    void live() {
        List<int[]> news = new ArrayList<>();
        for (int g = 0; g < folk.size(); g++) {
            for (int f = 0; f < folk.size(); f++) {
                int in = where(f, now);
                if (in < 0 || in >= 100 || in != where(g, now)) {
                    continue;
                }
                for (int fact = 0; fact < facts; fact++) {
                    if (knows(f, fact) >= 0 && knows(g, fact) < 0) {
                        news.add(new int[] {g, fact});
                    }
                }
            }
        }
        for (int[] told : news) {
            folk.get(told[0]).learned[told[1]] = 48 * days + now;
        }
        for (Meet m : meetings) {
            int there = 0;
            for (int f = 0; f < folk.size(); f++) {
                if ((m.who & 1 << f) != 0 && where(f, now) == m.claim.place) {
                    there |= 1 << f;
                }
            }
            if (now >= m.claim.from && now < m.claim.to) {
                m.seen |= there;
                if (there == m.who) {
                    m.today++;
                    m.ever++;
                }
            }
        }
        now++;
        if (now == 48) {
            days++;
            newDay();
        }
    }

    int bend(int who, int place, int from, int to) {
        if (!here(who) || !isPlace(place)) {
            return refuse(-1);
        }
        if (!span(from, to) || !begun) {
            return refuse(-6);
        }
        folk.get(who).bend = new Claim(place, from, to, 200);
        return plan(folk.get(who));
    }

    int lock(int place, boolean on) {
        if (!isPlace(place)) {
            return refuse(-1);
        }
        if (!begun) {
            return refuse(-6);
        }
        if (locked[place] == on) {
            return 0;
        }
        locked[place] = on;
        int count = 0;
        for (int f = 0; on && f < folk.size(); f++) {
            boolean due = false;
            for (int t = now; t < 48; t++) {
                due |= where(f, t) == place;
            }
            if (due) {
                plan(folk.get(f));
                count++;
            }
        }
        return count;
    }

    int again(int who) {
        if (!here(who)) {
            return refuse(-1);
        }
        return begun ? plan(folk.get(who)) : refuse(-6);
    }

    int gone(int who) {
        if (!here(who)) {
            return refuse(-1);
        }
        if (!begun) {
            return refuse(-6);
        }
        folk.get(who).gone = true;
        for (int t = now; t < 48; t++) {
            folk.get(who).day[t] = -1;
        }
        return status(3);
    }

    int happen(int place) {
        if (!isPlace(place)) {
            return refuse(-1);
        }
        if (!begun) {
            return refuse(-6);
        }
        if (facts == 12) {
            return refuse(-7);
        }
        for (int f = 0; f < folk.size(); f++) {
            if (where(f, now) == place || where(f, now) == 100 + place) {
                folk.get(f).learned[facts] = 48 * days + now;
            }
        }
        return facts++;
    }

    int where(int who, int t) {
        if (!isFolk(who) || t < 0 || t > 47 || folk.get(who).day == null) {
            return -1;
        }
        return folk.get(who).day[t];
    }

    int cost(int who) {
        return begun && here(who) ? folk.get(who).price : -1;
    }

    int seated(int place, int t) {
        if (!begun || !isPlace(place) || t < 0 || t > 47) {
            return -1;
        }
        int count = 0;
        for (int f = 0; f < folk.size(); f++) {
            count += where(f, t) == place ? 1 : 0;
        }
        return count;
    }

    int knows(int who, int fact) {
        return isFolk(who) && fact >= 0 && fact < facts ? folk.get(who).learned[fact] : -1;
    }

    int met(int meeting, int what) {
        if (meeting < 0 || meeting >= meetings.size() || what < 0 || what > 2) {
            return -1;
        }
        Meet m = meetings.get(meeting);
        return what == 0 ? m.today : what == 1 ? m.ever : m.seen;
    }

    int status(int what) {
        int here = 0;
        int bent = 0;
        int shut = 0;
        for (Person f : folk) {
            here += f.gone ? 0 : 1;
            bent += f.bend != null && !f.gone ? 1 : 0;
        }
        for (boolean l : locked) {
            shut += l ? 1 : 0;
        }
        int[] all = {places.size(), ways.size(), folk.size(), here, meetings.size(), now, days, facts, bent, shut,
            plans, no[1], no[2], no[3], no[4], no[5], no[6], no[7]};
        return what >= 0 && what < all.length ? all[what] : -1;
    }

    // ---- plans

    int claimsOf(Person f, int t, int in) {
        int sum = f.bend == null ? 0 : f.bend.costs(t, in);
        for (Claim c : f.duties) {
            sum += c.costs(t, in);
        }
        for (Meet m : meetings) {
            if ((m.who & 1 << folk.indexOf(f)) != 0) {
                sum += m.claim.costs(t, in);
            }
        }
        return sum;
    }

    boolean mayBeIn(Person f, int p, int t) {
        int[] place = places.get(p);
        if (locked[p] || !(t >= place[1] && t < place[2] || f.key[p])) {
            return false;
        }
        int others = 0;
        for (Person g : folk) {
            others += g != f && g.day != null && g.day[t] == p ? 1 : 0;
        }
        return others < place[0];
    }

    /** What the ticks of one choice cost: choice 0 is IN, 1 OUT, 2 + q the way to q. */
    int costOf(Person f, int t, int p, int choice) {
        if (choice == 0) {
            return 9 - f.like[p] + claimsOf(f, t, p) + (t == 47 && p != f.home ? 300 : 0);
        }
        if (choice == 1) {
            return 20 + claimsOf(f, t, -1) + (t == 47 && p != f.home ? 300 : 0);
        }
        int sum = 0;
        for (int u = t; u < Math.min(48, t + direct(p, choice - 2)); u++) {
            sum += 3 + claimsOf(f, u, -1) + (u == 47 ? 300 : 0);
        }
        return sum;
    }

    boolean isChoice(Person f, int t, int p, int choice) {
        return choice == 1 || choice == 0 && mayBeIn(f, p, t) || choice >= 2 && direct(p, choice - 2) < 99;
    }

    /** The least cost from here on, with the first choice of it in the highest part. */
    long best(Person f, int t, int p) {
        if (t >= 48) {
            return 0;
        }
        if (memo[t][p] >= 0) {
            return memo[t][p];
        }
        int least = Integer.MAX_VALUE;
        int first = 0;
        for (int choice = places.size() + 1; choice >= 0; choice--) {
            if (!isChoice(f, t, p, choice)) {
                continue;
            }
            int q = choice < 2 ? p : choice - 2;
            int rest = (int) best(f, t + (choice < 2 ? 1 : direct(p, q)), q);
            int sum = rest + costOf(f, t, p, choice);
            if (sum <= least) {
                least = sum;
                first = choice;
            }
        }
        memo[t][p] = (long) first << 32 | least;
        return memo[t][p];
    }

    /** All plans one by one, in the order of choices; the first of the cheapest stays. */
    void tryAll(Person f, int t, int p, int paid, List<Integer> choices) {
        if (t >= 48) {
            if (paid < triedCost) {
                triedCost = paid;
                tried = new ArrayList<>(choices);
            }
            return;
        }
        for (int choice = 0; choice < places.size() + 2; choice++) {
            if (isChoice(f, t, p, choice)) {
                int q = choice < 2 ? p : choice - 2;
                choices.add(choice);
                tryAll(f, t + (choice < 2 ? 1 : direct(p, q)), q, paid + costOf(f, t, p, choice), choices);
                choices.remove(choices.size() - 1);
            }
        }
    }

    int triedCost;
    List<Integer> tried;

    int plan(Person f) {
        plans++;
        if (f.day == null) {
            f.day = new int[48];
            f.ends = new int[48];
        }
        int t = now;
        int p = f.home;
        int price = 0;
        if (now > 0) {
            int code = f.day[now - 1];
            p = code < 100 ? code : code < 200 ? code - 100 : (code - 200) % 12;
            for (; code >= 200 && t < Math.min(48, f.ends[now - 1]); t++) {
                price += 3 + claimsOf(f, t, -1) + (t == 47 ? 300 : 0);
            }
        }
        for (int u = t; u < 48; u++) {
            f.day[u] = -1;
        }
        memo = new long[49][12];
        for (long[] m : memo) {
            Arrays.fill(m, -1);
        }
        price += (int) best(f, t, p);
        if (t >= 43) {
            triedCost = Integer.MAX_VALUE;
            tried = null;
            tryAll(f, t, p, 0, new ArrayList<>());
        } else {
            tried = null;
        }
        int step = 0;
        while (t < 48) {
            int choice = tried != null ? tried.get(step) : (int) (best(f, t, p) >> 32);
            step++;
            int q = choice < 2 ? p : choice - 2;
            int end = choice < 2 ? t + 1 : t + direct(p, q);
            for (int u = t; u < Math.min(48, end); u++) {
                f.day[u] = choice == 0 ? p : choice == 1 ? 100 + p : 200 + 12 * p + q;
                f.ends[u] = end;
            }
            t = end;
            p = q;
        }
        f.price = price;
        return price;
    }
}
