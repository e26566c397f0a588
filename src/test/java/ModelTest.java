/** Long runs of calls that come as numbers fall, each answer beside that of a second program. */
public final class ModelTest {
    private static final int RUNS = 400;
    private static final int STEPS = 512;
    // a run ends where the calls that must be made again on a new object would leave none for questions
    private static final int MOST_KEPT = 400;
    private static final int STEPS_TO_A_LOOK = 16;
    private static final int LOOKED_AT = 8;
    private static long seed = 20261119;

    private final Run x = new Run();
    private final Model m = new Model();

    private ModelTest() {
    }

    // ---- numbers that are the same each time

    private static int pick(int bound) {
        seed = seed * 6364136223846793005L + 1442695040888963407L;
        return (int) ((seed >>> 33) % bound);
    }

    /** Mostly one that is there, now and then one that isn't. */
    private static int among(int bound) {
        int r = pick(60);
        if (r == 0) {
            return -1 - pick(3);
        }
        if (r == 1) {
            return bound + pick(3);
        }
        if (r == 2) {
            int[] odd = {Run.LOWEST, Run.HIGHEST, 32, 64, -32, 1 << 20};
            return odd[pick(odd.length)];
        }
        return bound > 0 ? pick(bound) : 0;
    }

    private int somePlace() {
        return among(m.places.size());
    }

    private int someone() {
        return among(m.folk.size());
    }

    private static int endBehind(int from) {
        return pick(10) == 0 ? among(50) : Math.max(0, Math.min(47, from)) + 1 + pick(12);
    }

    // ---- the town, told ahead of BEGIN

    private void place() {
        int seats = pick(3) == 0 ? among(11) : 1 + pick(2);
        boolean allDay = pick(2) == 0;
        int from = allDay ? 0 : among(48);
        int to = allDay ? 48 : endBehind(from);
        x.due(m.place(seats, from, to), "place", seats, from, to);
    }

    private void way() {
        int a = somePlace();
        int b = somePlace();
        int ticks = pick(6) == 0 ? among(11) : 1 + pick(4);
        x.due(m.way(a, b, ticks), "way", a, b, ticks);
    }

    private void folk() {
        int home = somePlace();
        x.due(m.folk(home), "folk", home);
    }

    private void meeting() {
        int bits = Math.max(1, m.folk.size());
        int who = pick(10) == 0 ? among(1 << 20)
            : 1 << pick(bits) | 1 << pick(bits) | (pick(2) == 0 ? 1 << pick(bits) : 0);
        int place = somePlace();
        int from = among(48);
        int to = endBehind(from);
        int weight = among(102);
        x.due(m.meeting(who, place, from, to, weight), "meeting", who, place, from, to, weight);
    }

    // ---- the shelves, and what single folk are told

    private void row(int s, int sort, int n) {
        x.due(m.row(s, sort, n), "row", s, sort, n);
    }

    private void set(int s, int i, long v) {
        x.due(m.set(s, i, v), "set", s, i, v);
    }

    private void shelf() {
        int s = among(8);
        int i = among(8);
        switch (pick(7)) {
            case 0: {
                int size = pick(4) == 0 ? among(62) : pick(12);
                row(s, pick(3) == 0 ? among(5) : 1, size);
                break;
            }
            case 1: {
                int q = among(8);
                int j = among(8);
                int n = among(6);
                x.due(m.copy(s, q, i, j, n), "copy", s, q, i, j, n);
                break;
            }
            case 2: {
                int who = pick(3) == 0 ? -1 : someone();
                x.due(m.show(s, who), "show", s, who);
                break;
            }
            case 3: x.due(m.homeIn(s), "homeIn", s); break;
            case 4: x.due(m.holds(s), "holds", s); break;
            default: set(s, i, pick(2) == 0 ? pick(20) : seed); break;
        }
        x.due(m.element(s, i), "element", s, i);
    }

    private void duties() {
        int who = someone();
        int s = among(8);
        int size = pick(20) == 0 ? pick(61) : 4 * pick(5);
        row(s, pick(4), size);
        int start = 0;
        for (int i = 0; i + 3 < size; i += 4) {
            int from = pick(12) == 0 ? among(48) : start + pick(8);
            int to = from + 1 + pick(8);
            set(s, i, somePlace());
            set(s, i + 1, from);
            set(s, i + 2, to);
            set(s, i + 3, pick(12) == 0 ? among(102) : 1 + pick(100));
            start = to + (pick(8) == 0 ? -1 : pick(4));
        }
        if (pick(6) == 0 && size > 8) {
            x.due(m.copy(s, s, 0, 4, 4), "copy", s, s, 0, 4, 4);
        }
        x.due(m.duties(who, s), "duties", who, s);
        x.due(m.fault(0), "fault", 0).due(m.fault(1), "fault", 1);
    }

    private void likes() {
        int who = someone();
        int s = among(8);
        int size = pick(3) == 0 ? pick(15) : m.places.size();
        row(s, pick(4), size);
        int least = pick(2) == 0 ? 5 : 0;
        for (int i = 0; i < size; i++) {
            set(s, i, pick(40) == 0 ? among(11) : least + pick(10 - least));
        }
        x.due(m.likes(who, s), "likes", who, s);
    }

    private void key() {
        int who = someone();
        int place = somePlace();
        boolean has = pick(3) > 0;
        x.due(m.key(who, place, has), "key", who, place, has);
    }

    // ---- the days

    private void begin() {
        x.due(m.begin(), "begin");
    }

    private void tick() {
        int n = pick(3) == 0 ? among(50) : 1 + pick(6);
        x.due(m.tick(n), "tick", n);
    }

    private void bend() {
        int who = someone();
        int place = somePlace();
        int from = among(48);
        int to = endBehind(from);
        x.due(m.bend(who, place, from, to), "bend", who, place, from, to);
    }

    private void lock() {
        int place = somePlace();
        boolean on = pick(3) > 0;
        x.due(m.lock(place, on), "lock", place, on);
    }

    private void again() {
        int who = someone();
        x.due(m.again(who), "again", who);
    }

    private void gone() {
        int who = someone();
        x.due(m.gone(who), "gone", who);
    }

    private void happen() {
        int place = somePlace();
        x.due(m.happen(place), "happen", place);
    }

    // ---- what can be asked

    private void questions() {
        int who = someone();
        int place = somePlace();
        int other = somePlace();
        int t = among(48);
        int fact = among(12);
        int what = among(18);
        x.due(m.where(who, t), "where", who, t).due(m.cost(who), "cost", who);
        x.due(m.seated(place, t), "seated", place, t).due(m.knows(who, fact), "knows", who, fact);
        x.due(m.met(fact, what), "met", fact, what).due(m.far(place, other), "far", place, other);
        x.due(m.status(what), "status", what).due(m.fault(what), "fault", what);
    }

    /** Asks a part of all that can be asked, one question in so many. */
    private void look(int oneIn) {
        for (int f = 0; f < m.folk.size(); f++) {
            for (int t = 0; t < 48; t++) {
                if (pick(oneIn) == 0) {
                    x.due(m.where(f, t), "where", f, t);
                }
            }
            for (int fact = 0; fact < m.facts; fact++) {
                if (pick(oneIn) == 0) {
                    x.due(m.knows(f, fact), "knows", f, fact);
                }
            }
            x.due(m.cost(f), "cost", f);
        }
        for (int p = 0; p < m.places.size(); p++) {
            for (int t = 0; t < 48; t++) {
                if (pick(oneIn) == 0) {
                    x.due(m.seated(p, t), "seated", p, t);
                }
            }
            for (int q = 0; q < m.places.size(); q++) {
                if (pick(oneIn) == 0) {
                    x.due(m.far(p, q), "far", p, q);
                }
            }
        }
        lookAtRows(oneIn);
        for (int k = 0; k < m.meetings.size(); k++) {
            for (int what = 0; what < 3; what++) {
                x.due(m.met(k, what), "met", k, what);
            }
        }
        for (int what = 0; what < 18; what++) {
            x.due(m.status(what), "status", what);
        }
    }

    private void lookAtRows(int oneIn) {
        for (int s = 0; s < 8; s++) {
            x.due(m.holds(s), "holds", s);
            for (int i = 0; i < 60; i++) {
                if (pick(oneIn) == 0) {
                    x.due(m.element(s, i), "element", s, i);
                }
            }
        }
    }

    // ---- a run

    private void tellOfTheTown() {
        switch (pick(4)) {
            case 0: meeting(); break;
            case 1: duties(); break;
            case 2: likes(); break;
            default: key(); break;
        }
    }

    private void anyCall() {
        switch (pick(16)) {
            case 0: place(); break;
            case 1: way(); break;
            case 2: folk(); break;
            case 3: meeting(); break;
            case 4: duties(); break;
            case 5: likes(); break;
            case 6: key(); break;
            case 7: begin(); break;
            case 8: tick(); break;
            case 9: bend(); break;
            case 10: lock(); break;
            case 11: again(); break;
            case 12: gone(); break;
            case 13: happen(); break;
            case 14: shelf(); break;
            default: questions(); break;
        }
    }

    private void live() {
        int r = pick(100);
        if (r < 25) {
            tick();
        } else if (r < 40) {
            bend();
        } else if (r < 52) {
            lock();
        } else if (r < 60) {
            again();
        } else if (r < 61) {
            gone();
        } else if (r < 66) {
            happen();
        } else if (r < 76) {
            shelf();
        } else if (r < 80) {
            duties();
        } else if (r < 83) {
            likes();
        } else if (r < 87) {
            key();
        } else if (r < 89) {
            anyCall();
        } else {
            questions();
        }
    }

    private void run(boolean large) {
        int places = 1 + pick(large ? 13 : 5);
        int folk = 1 + pick(large ? 21 : 6);
        for (int i = 0; i < places; i++) {
            place();
        }
        for (int i = 0; i < 2 * places; i++) {
            way();
        }
        for (int i = 0; i < folk; i++) {
            folk();
        }
        for (int i = 0; i < 16; i++) {
            if (pick(40) == 0) {
                anyCall();
            } else {
                tellOfTheTown();
            }
        }
        begin();
        for (int step = 1; step < STEPS && x.kept() < MOST_KEPT; step++) {
            live();
            if (step % STEPS_TO_A_LOOK == 0) {
                look(LOOKED_AT);
            }
        }
        look(1);
    }

    public static void main(String[] args) {
        for (int run = 0; run < RUNS; run++) {
            Report.setting("run " + run);
            new ModelTest().run(run % 5 == 0);
        }
        Report.end("ModelTest");
    }
}
