import java.util.Arrays;

/** A town of made people who live their days by plans of least cost. */
public final class TownFolk {
    public static final int NONE = -1;

    private static final int NOBODY = -1;
    private static final int OTHER = -2;
    private static final int NOTHING = -3;
    private static final int BELOW = -4;
    private static final int BEYOND = -5;
    private static final int WRONG = -6;
    private static final int ROOM = -7;
    private static final int REFUSAL_KINDS = 7;

    private static final int DAY = 48;
    private static final int LAST_TICK = DAY - 1;
    private static final int MOST_DAYS = 20;
    private static final int MOST_PLACES = 12;
    private static final int MOST_WAYS = 30;
    private static final int MOST_PEOPLE = 20;
    private static final int SET_BITS = 32;
    private static final int MOST_MEETINGS = 10;
    private static final int MOST_FACTS = 12;
    private static final int MOST_SEATS = 9;
    private static final int LONGEST_WAY = 9;
    private static final int GREATEST_WEIGHT = 100;
    private static final int SHELVES = 8;
    private static final int ROW_CELLS = 60;
    private static final int DUTY_CELLS = 4;
    private static final int MOST_DUTY_CELLS = 48;

    // what a tick of a plan says: p IN it, these and p OUT at it, on a way from p to q
    private static final int OUT_CODE = 100;
    private static final int WAY_CODE = 200;

    private static final int GREATEST_LIKE = 9;
    private static final int FIRST_LIKE = 5;
    private static final int OUT_COST = 20;
    private static final int WAY_COST = 3;
    private static final int AWAY_COST = 300;
    private static final int BEND_WEIGHT = 200;

    private final Town town = new Town();
    private final Shelf[] shelves = new Shelf[SHELVES];
    private final Resident[] people = new Resident[MOST_PEOPLE];
    private final Gathering[] gatherings = new Gathering[MOST_MEETINGS];
    private final Seats takenSeats = new Seats();
    private final Planner planner = new Planner();
    private final DutyCheck dutyCheck = new DutyCheck();
    private final int[] told = new int[MOST_PLACES];
    private final int[] refusals = new int[REFUSAL_KINDS + 1];
    private int peopleEver;
    private int gatheringCount;
    private int factCount;
    private int plansMade;
    private int lockedPlaces;
    private int now;
    private int daysLived;
    private boolean begun;

    public TownFolk() {
        for (int s = 0; s < SHELVES; s++) {
            shelves[s] = new Shelf();
        }
        for (int f = 0; f < MOST_PEOPLE; f++) {
            people[f] = new Resident();
        }
        for (int m = 0; m < MOST_MEETINGS; m++) {
            gatherings[m] = new Gathering();
        }
    }

    // ---- the town, told ahead of BEGIN

    public int place(int seats, int from, int to) {
        if (seats < 1 || seats > MOST_SEATS || !isSpan(from, to) || begun) {
            return refuse(WRONG);
        }
        if (town.places >= MOST_PLACES) {
            return refuse(ROOM);
        }
        return town.addPlace(seats, from, to);
    }

    public int way(int a, int b, int ticks) {
        if (!town.has(a) || !town.has(b)) {
            return refuse(NOBODY);
        }
        if (a == b || ticks < 1 || ticks > LONGEST_WAY || begun) {
            return refuse(WRONG);
        }
        if (town.ways >= MOST_WAYS) {
            return refuse(ROOM);
        }
        town.addWay(a, b, ticks);
        return 1;
    }

    public int folk(int home) {
        if (!town.has(home)) {
            return refuse(NOBODY);
        }
        if (begun) {
            return refuse(WRONG);
        }
        if (peopleEver >= MOST_PEOPLE) {
            return refuse(ROOM);
        }
        people[peopleEver].home = home;
        peopleEver++;
        return peopleEver - 1;
    }

    public int meeting(int who, int place, int from, int to, int weight) {
        if (!areAllHere(who) || !town.has(place)) {
            return refuse(NOBODY);
        }
        if (Integer.bitCount(who) < 2 || !isSpan(from, to) || !isWeight(weight) || begun) {
            return refuse(WRONG);
        }
        if (gatheringCount >= MOST_MEETINGS) {
            return refuse(ROOM);
        }
        gatherings[gatheringCount].arrange(who, place, from, to, weight);
        gatheringCount++;
        return gatheringCount - 1;
    }

    // ---- the shelves

    public int row(int s, int sort, int n) {
        if (!isShelf(s)) {
            return refuse(NOBODY);
        }
        if (n < 0) {
            return refuse(BELOW);
        }
        if (sort < 0 || sort > Shelf.LONGS) {
            return refuse(WRONG);
        }
        if (n > ROW_CELLS) {
            return refuse(ROOM);
        }
        shelves[s].putRow(sort, n);
        return 1;
    }

    public int set(int s, int i, long v) {
        int no = refusalOfRow(s);
        if (no != 0) {
            return refuse(no);
        }
        Shelf shelf = shelves[s];
        if (i < 0 || i >= shelf.size) {
            return refuse(BEYOND);
        }
        shelf.write(i, v);
        return 1;
    }

    public int copy(int p, int q, int i, int j, int n) {
        if (!isShelf(p) || !isShelf(q)) {
            return refuse(NOBODY);
        }
        Shelf source = shelves[p];
        Shelf target = shelves[q];
        boolean bothRows = source.isRow() && target.isRow();
        if (source.isPerson() || target.isPerson() || bothRows && source.sort != target.sort) {
            return refuse(OTHER);
        }
        if (!bothRows) {
            return refuse(NOTHING);
        }
        if (n < 0) {
            return refuse(BELOW);
        }
        if (!source.hasStretch(i, n) || !target.hasStretch(j, n)) {
            return refuse(BEYOND);
        }
        System.arraycopy(source.cells, i, target.cells, j, n);
        return 1;
    }

    public long element(int s, int i) {
        if (!isShelf(s) || i < 0 || i >= shelves[s].size) {
            return 0;
        }
        return shelves[s].cells[i];
    }

    public int show(int s, int who) {
        if (!isShelf(s) || who != NONE && !wasEver(who)) {
            return refuse(NOBODY);
        }
        if (who == NONE) {
            shelves[s].clear();
            return 0;
        }
        shelves[s].putPerson(who);
        return 1;
    }

    public int holds(int s) {
        return isShelf(s) ? shelves[s].content() : NONE;
    }

    public int homeIn(int s) {
        if (!isShelf(s)) {
            return refuse(NOBODY);
        }
        Shelf shelf = shelves[s];
        if (shelf.isRow()) {
            return refuse(OTHER);
        }
        if (!wasEver(shelf.person)) {
            return refuse(NOTHING);
        }
        return people[shelf.person].home;
    }

    // ---- what single folk are told

    public int duties(int who, int s) {
        int no = isHere(who) ? refusalOfRow(s) : NOBODY;
        if (no != 0) {
            return refuse(no);
        }
        dutyCheck.examine(shelves[s], town);
        if (dutyCheck.found != 0) {
            return refuse(WRONG);
        }
        return people[who].takeDuties(shelves[s]);
    }

    public int fault(int what) {
        if (what == 0) {
            return dutyCheck.found;
        }
        return what == 1 ? dutyCheck.number : NONE;
    }

    public int likes(int who, int s) {
        int no = isHere(who) ? refusalOfRow(s) : NOBODY;
        if (no != 0) {
            return refuse(no);
        }
        int count = Math.min(shelves[s].size, town.places);
        for (int p = 0; p < count; p++) {
            int like = shelves[s].asInt(p);
            if (like < 0 || like > GREATEST_LIKE) {
                return refuse(WRONG);
            }
        }
        people[who].takeLikes(shelves[s], count);
        return count;
    }

    public int key(int who, int place, boolean has) {
        if (!isHere(who) || !town.has(place)) {
            return refuse(NOBODY);
        }
        int old = people[who].keys;
        int bit = 1 << place;
        people[who].keys = has ? old | bit : old & ~bit;
        return people[who].keys == old ? 0 : 1;
    }

    // ---- the days

    public int begin() {
        if (begun) {
            return refuse(WRONG);
        }
        begun = true;
        return beginDay();
    }

    public int tick(int n) {
        if (n < 1 || n > DAY || !begun) {
            return refuse(WRONG);
        }
        if (moment() + n >= (MOST_DAYS + 1) * DAY) {
            return refuse(ROOM);
        }
        for (int i = 0; i < n; i++) {
            liveTick();
        }
        return now;
    }

    public int bend(int who, int place, int from, int to) {
        if (!isHere(who) || !town.has(place)) {
            return refuse(NOBODY);
        }
        if (!isSpan(from, to) || !begun) {
            return refuse(WRONG);
        }
        people[who].takeBend(place, from, to);
        return replan(who);
    }

    public int lock(int place, boolean on) {
        if (!town.has(place)) {
            return refuse(NOBODY);
        }
        if (!begun) {
            return refuse(WRONG);
        }
        int bit = 1 << place;
        boolean wasLocked = (lockedPlaces & bit) != 0;
        if (!on) {
            lockedPlaces &= ~bit;
        }
        if (!on || wasLocked) {
            return 0;
        }
        lockedPlaces |= bit;
        return replanThoseDueIn(place);
    }

    public int again(int who) {
        if (!isHere(who)) {
            return refuse(NOBODY);
        }
        if (!begun) {
            return refuse(WRONG);
        }
        return replan(who);
    }

    public int gone(int who) {
        if (!isHere(who)) {
            return refuse(NOBODY);
        }
        if (!begun) {
            return refuse(WRONG);
        }
        takenSeats.release(people[who].plan, now);
        people[who].leave(now);
        return countHere();
    }

    public int happen(int place) {
        if (!town.has(place)) {
            return refuse(NOBODY);
        }
        if (!begun) {
            return refuse(WRONG);
        }
        if (factCount >= MOST_FACTS) {
            return refuse(ROOM);
        }
        int fact = factCount;
        factCount++;
        for (int f = 0; f < peopleEver; f++) {
            int code = people[f].plan[now];
            if (code == place || code == OUT_CODE + place) {
                people[f].learn(1 << fact, moment());
            }
        }
        return fact;
    }

    // ---- what can be asked

    public int where(int who, int t) {
        // a plan says NONE ahead of BEGIN and from being GONE on
        return wasEver(who) && isTick(t) ? people[who].plan[t] : NONE;
    }

    public int cost(int who) {
        return isHere(who) && begun ? people[who].planCost : NONE;
    }

    public int seated(int place, int t) {
        return town.has(place) && isTick(t) && begun ? takenSeats.taken(place, t) : NONE;
    }

    public int knows(int who, int fact) {
        if (!wasEver(who) || fact < 0 || fact >= factCount) {
            return NONE;
        }
        return people[who].learnedAt(fact);
    }

    public int met(int meeting, int what) {
        if (meeting < 0 || meeting >= gatheringCount) {
            return NONE;
        }
        switch (what) {
            case 0: return gatherings[meeting].ticksToday;
            case 1: return gatherings[meeting].ticksEver;
            case 2: return gatherings[meeting].seenToday;
            default: return NONE;
        }
    }

    public int far(int a, int b) {
        return town.has(a) && town.has(b) ? town.apart(a, b) : NONE;
    }

    public int status(int what) {
        switch (what) {
            case 0: return town.places;
            case 1: return town.ways;
            case 2: return peopleEver;
            case 3: return countHere();
            case 4: return gatheringCount;
            case 5: return now;
            case 6: return daysLived;
            case 7: return factCount;
            case 8: return countBent();
            case 9: return Integer.bitCount(lockedPlaces);
            case 10: return plansMade;
            default: return refusalsOf(10 - what);
        }
    }

    // ---- tests of arguments

    private int refuse(int number) {
        if (number <= NOBODY && number >= ROOM) {
            refusals[-number]++;
        }
        return number;
    }

    private int refusalsOf(int number) {
        return number <= NOBODY && number >= ROOM ? refusals[-number] : NONE;
    }

    /** The refusal of shelf s where a row is wanted, 0 if it holds one. */
    private int refusalOfRow(int s) {
        if (!isShelf(s)) {
            return NOBODY;
        }
        if (shelves[s].isPerson()) {
            return OTHER;
        }
        return shelves[s].isRow() ? 0 : NOTHING;
    }

    private static boolean isShelf(int s) {
        return s >= 0 && s < SHELVES;
    }

    private static boolean isSpan(int from, int to) {
        return 0 <= from && from < to && to <= DAY;
    }

    private static boolean isTick(int t) {
        return t >= 0 && t < DAY;
    }

    private static boolean isWeight(int weight) {
        return weight >= 1 && weight <= GREATEST_WEIGHT;
    }

    private boolean wasEver(int who) {
        return who >= 0 && who < peopleEver;
    }

    private boolean isHere(int who) {
        return wasEver(who) && !people[who].left;
    }

    private boolean areAllHere(int bits) {
        for (int f = 0; f < SET_BITS; f++) {
            if ((bits >>> f & 1) != 0 && !isHere(f)) {
                return false;
            }
        }
        return true;
    }

    private int countHere() {
        int count = 0;
        for (int f = 0; f < peopleEver; f++) {
            count += people[f].left ? 0 : 1;
        }
        return count;
    }

    private int countBent() {
        int count = 0;
        for (int f = 0; f < peopleEver; f++) {
            count += people[f].bent ? 1 : 0;
        }
        return count;
    }

    // ---- how days go

    private int moment() {
        return daysLived * DAY + now;
    }

    private int beginDay() {
        now = 0;
        lockedPlaces = 0;
        takenSeats.clear();
        for (int m = 0; m < gatheringCount; m++) {
            gatherings[m].beginDay();
        }
        // all plans of the day before go first, for the first to be planned sees none of them
        for (int f = 0; f < peopleEver; f++) {
            people[f].beginDay();
        }
        int planned = 0;
        for (int f = 0; f < peopleEver; f++) {
            if (!people[f].left) {
                replan(f);
                planned++;
            }
        }
        return planned;
    }

    private void liveTick() {
        tellFacts();
        for (int m = 0; m < gatheringCount; m++) {
            gatherings[m].live(people, now);
        }
        now++;
        if (now == DAY) {
            daysLived++;
            beginDay();
        }
    }

    /** All is gathered before anyone learns, so that a fact goes one step in a tick. */
    private void tellFacts() {
        Arrays.fill(told, 0);
        for (int f = 0; f < peopleEver; f++) {
            int code = people[f].plan[now];
            if (isIn(code)) {
                told[code] |= people[f].known;
            }
        }
        for (int f = 0; f < peopleEver; f++) {
            int code = people[f].plan[now];
            if (isIn(code)) {
                people[f].learn(told[code], moment());
            }
        }
    }

    private static boolean isIn(int code) {
        return code >= 0 && code < MOST_PLACES;
    }

    private int replanThoseDueIn(int place) {
        int count = 0;
        for (int f = 0; f < peopleEver; f++) {
            if (people[f].isDueIn(place, now)) {
                replan(f);
                count++;
            }
        }
        return count;
    }

    /** Plans one of the folk from now on, and answers what the plan costs. */
    private int replan(int who) {
        Resident one = people[who];
        plansMade++;
        takenSeats.release(one.plan, now);
        planner.weigh(one);
        for (int m = 0; m < gatheringCount; m++) {
            if (gatherings[m].isOf(who)) {
                planner.claim(gatherings[m].place, gatherings[m].from, gatherings[m].to,
                    gatherings[m].weight);
            }
        }
        int free = one.freeFrom(now);
        int standing = one.standsAt(free);
        planner.search(one, town, takenSeats, lockedPlaces, free);
        one.planCost = planner.write(one, town, now, free, standing);
        takenSeats.take(one.plan, now);
        return one.planCost;
    }

    /** The places, their hours and seats, and the ways between them. */
    private static final class Town {
        private final int[] seatsOf = new int[MOST_PLACES];
        private final int[] opens = new int[MOST_PLACES];
        private final int[] closes = new int[MOST_PLACES];
        // ticks of the shortest way that joins two places, 0 if none does
        private final int[] joined = new int[MOST_PLACES * MOST_PLACES];
        private final int[] least = new int[MOST_PLACES * MOST_PLACES];
        private int places;
        private int ways;

        boolean has(int p) {
            return p >= 0 && p < places;
        }

        int addPlace(int seats, int from, int to) {
            int p = places;
            places++;
            seatsOf[p] = seats;
            opens[p] = from;
            closes[p] = to;
            for (int q = 0; q <= p; q++) {
                least[p * MOST_PLACES + q] = NONE;
                least[q * MOST_PLACES + p] = NONE;
            }
            least[p * MOST_PLACES + p] = 0;
            return p;
        }

        void addWay(int a, int b, int ticks) {
            ways++;
            int old = joined[a * MOST_PLACES + b];
            if (old != 0 && old <= ticks) {
                return;
            }
            joined[a * MOST_PLACES + b] = ticks;
            joined[b * MOST_PLACES + a] = ticks;
            // a shortest road uses the new way once at most, so one pass over all pairs will do
            for (int p = 0; p < places; p++) {
                for (int q = 0; q < places; q++) {
                    shorten(p, q, apart(p, a), apart(b, q), ticks);
                    shorten(p, q, apart(p, b), apart(a, q), ticks);
                }
            }
        }

        private void shorten(int p, int q, int there, int onward, int ticks) {
            if (there == NONE || onward == NONE) {
                return;
            }
            int old = least[p * MOST_PLACES + q];
            int ticksNew = there + ticks + onward;
            if (old == NONE || ticksNew < old) {
                least[p * MOST_PLACES + q] = ticksNew;
            }
        }

        int apart(int a, int b) {
            return least[a * MOST_PLACES + b];
        }

        boolean isReached(int a, int b, int ticks) {
            int needed = apart(a, b);
            return needed != NONE && needed <= ticks;
        }

        int wayTicks(int a, int b) {
            return joined[a * MOST_PLACES + b];
        }

        boolean isOpen(int p, int t) {
            return opens[p] <= t && t < closes[p];
        }
    }

    /** A shelf: nothing, one of the folk, or a row. */
    private static final class Shelf {
        private static final int BYTES = 0;
        private static final int SHORTS = 1;
        private static final int INTS = 2;
        private static final int LONGS = 3;
        private static final int ROW_CONTENT = 100;

        private final long[] cells = new long[ROW_CELLS];
        private int person = NONE;
        private int sort = NONE;
        private int size;

        boolean isRow() {
            return sort != NONE;
        }

        boolean isPerson() {
            return person != NONE;
        }

        void clear() {
            person = NONE;
            sort = NONE;
            size = 0;
        }

        void putPerson(int who) {
            clear();
            person = who;
        }

        void putRow(int newSort, int newSize) {
            clear();
            sort = newSort;
            size = newSize;
            Arrays.fill(cells, 0);
        }

        int content() {
            return isRow() ? ROW_CONTENT + sort : person;
        }

        boolean hasStretch(int start, int n) {
            return start >= 0 && n <= size && start <= size - n;
        }

        void write(int i, long v) {
            switch (sort) {
                case BYTES: cells[i] = (byte) v; break;
                case SHORTS: cells[i] = (short) v; break;
                case INTS: cells[i] = (int) v; break;
                default: cells[i] = v; break;
            }
        }

        int asInt(int i) {
            return (int) cells[i];
        }
    }

    /** One of the folk. */
    private static final class Resident {
        private final int[] likings = new int[MOST_PLACES];
        private final int[] duty = new int[MOST_DUTY_CELLS];
        private final int[] plan = new int[DAY];
        private final int[] learned = new int[MOST_FACTS];
        private int home;
        private int keys;
        private int dutyCells;
        private int bendPlace;
        private int bendFrom;
        private int bendTo;
        private int planCost;
        private int known;
        private boolean bent;
        private boolean left;

        Resident() {
            Arrays.fill(likings, FIRST_LIKE);
            Arrays.fill(plan, NONE);
        }

        int takeDuties(Shelf row) {
            dutyCells = Math.min(row.size, MOST_DUTY_CELLS);
            for (int i = 0; i < dutyCells; i++) {
                duty[i] = row.asInt(i);
            }
            return dutyCells / DUTY_CELLS;
        }

        void takeLikes(Shelf row, int count) {
            for (int p = 0; p < count; p++) {
                likings[p] = row.asInt(p);
            }
        }

        boolean hasKey(int p) {
            return (keys >>> p & 1) != 0;
        }

        void beginDay() {
            bent = false;
            Arrays.fill(plan, NONE);
        }

        void takeBend(int place, int from, int to) {
            bent = true;
            bendPlace = place;
            bendFrom = from;
            bendTo = to;
        }

        void leave(int from) {
            left = true;
            bent = false;
            for (int t = from; t < DAY; t++) {
                plan[t] = NONE;
            }
        }

        boolean isDueIn(int place, int from) {
            for (int t = from; t < DAY; t++) {
                if (plan[t] == place) {
                    return true;
                }
            }
            return false;
        }

        /** The first tick, from now on, at which no way that began earlier is still to be gone. */
        int freeFrom(int now) {
            if (now == 0 || plan[now - 1] < WAY_CODE) {
                return now;
            }
            // no way follows on itself, so the same way in the next tick is the same going
            for (int t = now; t < DAY; t++) {
                if (plan[t] != plan[now - 1]) {
                    return t;
                }
            }
            return DAY;
        }

        /** The place where one stands as a tick comes, by the tick ahead of it. */
        int standsAt(int t) {
            int code = t == 0 ? home : plan[t - 1];
            if (code >= WAY_CODE) {
                return (code - WAY_CODE) % MOST_PLACES;
            }
            return code >= OUT_CODE ? code - OUT_CODE : code;
        }

        void learn(int facts, int moment) {
            for (int fact = 0; fact < MOST_FACTS; fact++) {
                if ((facts >>> fact & 1) != 0 && (known >>> fact & 1) == 0) {
                    learned[fact] = moment;
                }
            }
            known |= facts;
        }

        int learnedAt(int fact) {
            return (known >>> fact & 1) != 0 ? learned[fact] : NONE;
        }
    }

    /** A meeting, and how it went. */
    private static final class Gathering {
        private int members;
        private int place;
        private int from;
        private int to;
        private int weight;
        private int ticksToday;
        private int ticksEver;
        private int seenToday;

        void arrange(int who, int where, int start, int end, int heft) {
            members = who;
            place = where;
            from = start;
            to = end;
            weight = heft;
        }

        boolean isOf(int who) {
            return (members >>> who & 1) != 0;
        }

        void beginDay() {
            ticksToday = 0;
            seenToday = 0;
        }

        void live(Resident[] people, int t) {
            if (t < from || t >= to) {
                return;
            }
            int seen = 0;
            for (int f = 0; f < people.length; f++) {
                if (isOf(f) && people[f].plan[t] == place) {
                    seen |= 1 << f;
                }
            }
            seenToday |= seen;
            if (seen == members) {
                ticksToday++;
                ticksEver++;
            }
        }
    }

    /** How many seats the day's plans take, of each place in each tick. */
    private static final class Seats {
        private final int[] count = new int[MOST_PLACES * DAY];

        void clear() {
            Arrays.fill(count, 0);
        }

        int taken(int p, int t) {
            return count[p * DAY + t];
        }

        void take(int[] plan, int from) {
            add(plan, from, 1);
        }

        void release(int[] plan, int from) {
            add(plan, from, -1);
        }

        private void add(int[] plan, int from, int change) {
            for (int t = from; t < DAY; t++) {
                if (isIn(plan[t])) {
                    count[plan[t] * DAY + t] += change;
                }
            }
        }
    }

    /** The first fault of a row of duties. */
    private static final class DutyCheck {
        private int found;
        private int number = NONE;

        void examine(Shelf row, Town town) {
            found = 0;
            number = NONE;
            if (row.size % DUTY_CELLS != 0 || row.size > MOST_DUTY_CELLS) {
                found = 1;
                number = 0;
                return;
            }
            for (int d = 0; d < row.size / DUTY_CELLS; d++) {
                found = faultOf(row, d, town);
                if (found != 0) {
                    number = d;
                    return;
                }
            }
        }

        private static int placeOf(Shelf row, int d) {
            return row.asInt(d * DUTY_CELLS);
        }

        private static int startOf(Shelf row, int d) {
            return row.asInt(d * DUTY_CELLS + 1);
        }

        private static int endOf(Shelf row, int d) {
            return row.asInt(d * DUTY_CELLS + 2);
        }

        private static int faultOf(Shelf row, int d, Town town) {
            if (!town.has(placeOf(row, d))) {
                return 2;
            }
            if (!isSpan(startOf(row, d), endOf(row, d))) {
                return 3;
            }
            if (!isWeight(row.asInt(d * DUTY_CELLS + 3))) {
                return 4;
            }
            if (meetsEarlier(row, d)) {
                return 5;
            }
            return isReachable(row, d, town) ? 0 : 6;
        }

        private static boolean meetsEarlier(Shelf row, int d) {
            for (int e = 0; e < d; e++) {
                if (startOf(row, e) < endOf(row, d) && startOf(row, d) < endOf(row, e)) {
                    return true;
                }
            }
            return false;
        }

        /** Whether there is time for the ways from and to the neighbours among earlier duties. */
        private static boolean isReachable(Shelf row, int d, Town town) {
            int ahead = NONE;
            int behind = NONE;
            for (int e = 0; e < d; e++) {
                if (endOf(row, e) <= startOf(row, d)
                        && (ahead == NONE || endOf(row, e) > endOf(row, ahead))) {
                    ahead = e;
                }
                if (startOf(row, e) >= endOf(row, d)
                        && (behind == NONE || startOf(row, e) < startOf(row, behind))) {
                    behind = e;
                }
            }
            return (ahead == NONE || isInTime(row, ahead, d, town))
                && (behind == NONE || isInTime(row, d, behind, town));
        }

        private static boolean isInTime(Shelf row, int first, int second, Town town) {
            return town.isReached(placeOf(row, first), placeOf(row, second),
                startOf(row, second) - endOf(row, first));
        }
    }

    /** Finds plans of least cost, from the day's end back to the first free tick. */
    private static final class Planner {
        // weight of all claims in a tick, and of those that being IN a place spares
        private final int[] claimed = new int[DAY];
        private final int[] spared = new int[MOST_PLACES * DAY];
        // what it costs to be on ways in all ticks ahead of one
        private final int[] onWays = new int[DAY + 1];
        // of who stands at a place as a tick comes: least cost to the day's end, first choice of it
        private final int[] least = new int[(DAY + 1) * MOST_PLACES];
        private final int[] choice = new int[DAY * MOST_PLACES];

        /** Forgets the claims of whoever was planned last, and takes this one's own. */
        void weigh(Resident one) {
            Arrays.fill(claimed, 0);
            Arrays.fill(spared, 0);
            for (int i = 0; i + DUTY_CELLS <= one.dutyCells; i += DUTY_CELLS) {
                claim(one.duty[i], one.duty[i + 1], one.duty[i + 2], one.duty[i + 3]);
            }
            if (one.bent) {
                claim(one.bendPlace, one.bendFrom, one.bendTo, BEND_WEIGHT);
            }
        }

        void claim(int place, int from, int to, int weight) {
            for (int t = from; t < to; t++) {
                claimed[t] += weight;
                spared[place * DAY + t] += weight;
            }
        }

        void search(Resident one, Town town, Seats seats, int lockedPlaces, int free) {
            for (int t = 0; t < DAY; t++) {
                onWays[t + 1] = onWays[t] + WAY_COST + claimed[t];
            }
            for (int t = LAST_TICK; t >= free; t--) {
                for (int p = 0; p < town.places; p++) {
                    stay(one, p, t, mayBeIn(one, p, t, town, seats, lockedPlaces));
                    goOn(town, p, t);
                }
            }
        }

        private static boolean mayBeIn(Resident one, int p, int t, Town town, Seats seats,
                int lockedPlaces) {
            return (town.isOpen(p, t) || one.hasKey(p))
                && (lockedPlaces >>> p & 1) == 0
                && seats.taken(p, t) < town.seatsOf[p];
        }

        private void stay(Resident one, int p, int t, boolean mayBeIn) {
            int rest = least[(t + 1) * MOST_PLACES + p] + claimed[t]
                + (t == LAST_TICK && p != one.home ? AWAY_COST : 0);
            // IN never costs as much as OUT, so who may be IN is never OUT
            int inside = GREATEST_LIKE - one.likings[p] - spared[p * DAY + t];
            least[t * MOST_PLACES + p] = rest + (mayBeIn ? inside : OUT_COST);
            choice[t * MOST_PLACES + p] = mayBeIn ? p : OUT_CODE + p;
        }

        private void goOn(Town town, int p, int t) {
            for (int q = 0; q < town.places; q++) {
                int ticks = town.wayTicks(p, q);
                if (ticks == 0) {
                    continue;
                }
                int total = costOfWay(t, t + ticks, q);
                if (total < least[t * MOST_PLACES + p]) {
                    least[t * MOST_PLACES + p] = total;
                    choice[t * MOST_PLACES + p] = WAY_CODE + MOST_PLACES * p + q;
                }
            }
        }

        /** What a way costs from a tick to its end, and all that follows it. */
        private int costOfWay(int t, int end, int q) {
            if (end >= DAY) {
                return onWays[DAY] - onWays[t] + AWAY_COST;
            }
            return onWays[end] - onWays[t] + least[end * MOST_PLACES + q];
        }

        /** Writes the plan found, and answers its cost from now on. */
        int write(Resident one, Town town, int now, int free, int standing) {
            int total = free > now ? costOfWay(now, free, standing)
                : least[free * MOST_PLACES + standing];
            int p = standing;
            int code = NONE;
            int nextChoice = free;
            for (int t = free; t < DAY; t++) {
                if (t >= nextChoice) {
                    code = choice[t * MOST_PLACES + p];
                    nextChoice = t + 1;
                    if (code >= WAY_CODE) {
                        int q = (code - WAY_CODE) % MOST_PLACES;
                        nextChoice = t + town.wayTicks(p, q);
                        p = q;
                    }
                }
                one.plan[t] = code;
            }
            return total;
        }
    }
}
