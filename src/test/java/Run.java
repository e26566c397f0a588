import java.lang.reflect.InvocationTargetException;
import java.lang.reflect.Method;
import java.util.ArrayList;
import java.util.HashMap;
import java.util.List;
import java.util.Map;
import java.util.Set;

/**
 * A run of calls on a new object, each call by its name, so that one which isn't as due is told in full.
 * Calls that may change something are kept: the same run can be made again on another object, which
 * is done whenever the 512 calls that the document allows an object would be passed.
 */
final class Run {
    static final int LOWEST = Integer.MIN_VALUE;
    static final int HIGHEST = Integer.MAX_VALUE;
    private static final int MOST_CALLS = 512;
    private static final int MOST_KEPT = 480;
    private static final int REFUSAL_KINDS = 7;
    private static final Set<String> QUESTIONS = Set.of("element", "holds", "fault", "where", "cost",
        "seated", "knows", "met", "far", "status");
    private static final Map<String, Method> FACE = face();

    /** A call: a name of the face and what is given to it. */
    private static final class Call {
        final String name;
        final Object[] given;

        Call(String name, Object... given) {
            this.name = name;
            this.given = given;
        }

        long on(TownFolk object) {
            try {
                Object answer = FACE.get(name).invoke(object, fitted());
                return ((Number) answer).longValue();
            } catch (InvocationTargetException e) {
                Report.fault(this + " threw " + e.getCause());
            } catch (IllegalAccessException e) {
                Report.fault(this + " can't be called");
            }
            return Long.MIN_VALUE;
        }

        private Object[] fitted() {
            Class<?>[] wanted = FACE.get(name).getParameterTypes();
            Object[] fit = given.clone();
            for (int i = 0; i < fit.length; i++) {
                if (wanted[i] == long.class) {
                    fit[i] = ((Number) given[i]).longValue();
                }
            }
            return fit;
        }

        @Override
        public String toString() {
            StringBuilder text = new StringBuilder(name).append('(');
            for (int i = 0; i < given.length; i++) {
                text.append(i == 0 ? "" : ", ").append(given[i]);
            }
            return text.append(')').toString();
        }
    }

    private final List<Call> kept = new ArrayList<>();
    private TownFolk object = new TownFolk();
    private int calls;

    private static Map<String, Method> face() {
        Map<String, Method> face = new HashMap<>();
        for (Method m : TownFolk.class.getDeclaredMethods()) {
            if (java.lang.reflect.Modifier.isPublic(m.getModifiers())) {
                face.put(m.getName(), m);
            }
        }
        return face;
    }

    // ---- calls

    private long make(Call call) {
        if (calls >= MOST_CALLS) {
            startAnew();
        }
        if (!QUESTIONS.contains(call.name)) {
            kept.add(call);
            if (kept.size() > MOST_KEPT) {
                throw new IllegalStateException("a run is too long for one object");
            }
        }
        calls++;
        return call.on(object);
    }

    private void startAnew() {
        object = new TownFolk();
        calls = kept.size();
        for (Call call : kept) {
            call.on(object);
        }
    }

    /** How many calls would be made again on a new object; the run ends ahead of MOST_KEPT. */
    int kept() {
        return kept.size();
    }

    long answer(String name, Object... given) {
        return make(new Call(name, given));
    }

    /** A call whose answer is decided. */
    Run due(long want, String name, Object... given) {
        Call call = new Call(name, given);
        Report.due(call.toString(), make(call), want);
        return this;
    }

    /** A call of the setting: it isn't refused. */
    Run does(String name, Object... given) {
        Call call = new Call(name, given);
        long got = make(call);
        if (got < 0) {
            Report.fault("in the setting, " + call + " answered " + got);
        }
        return this;
    }

    /** A call that is refused: nothing changes but how many such there were. */
    Run refused(int number, String name, Object... given) {
        boolean faultMayChange = name.equals("duties") && number == -6;
        long[] counts = refusals();
        List<String> before = look(faultMayChange);
        due(number, name, given);
        List<String> after = look(faultMayChange);
        Call call = new Call(name, given);
        for (int i = 0; i < before.size() && i < after.size(); i++) {
            if (!before.get(i).equals(after.get(i))) {
                Report.fault(call + " was refused, but changed " + before.get(i) + " to " + after.get(i));
                break;
            }
        }
        Report.due("questions behind " + call, after.size(), before.size());
        for (int kind = 1; kind <= REFUSAL_KINDS; kind++) {
            due(counts[kind] + (kind == -number ? 1 : 0), "status", 10 + kind);
        }
        return this;
    }

    private long[] refusals() {
        long[] counts = new long[REFUSAL_KINDS + 1];
        for (int kind = 1; kind <= REFUSAL_KINDS; kind++) {
            counts[kind] = answer("status", 10 + kind);
        }
        return counts;
    }

    /** How many refusals there were, -1 to -7. */
    Run dueRefusals(int... want) {
        for (int i = 0; i < want.length; i++) {
            due(want[i], "status", 11 + i);
        }
        return this;
    }

    // ---- all that can be asked

    private Run again() {
        Run other = new Run();
        other.kept.addAll(kept);
        other.startAnew();
        return other;
    }

    /** The answers to all that can be asked just now, and those of a day that would go on from here. */
    private List<String> look(boolean withoutFault) {
        List<String> seen = new ArrayList<>();
        Run asked = again();
        for (Call call : questions(withoutFault)) {
            seen.add(call + " -> " + asked.make(call));
        }
        for (Call call : future()) {
            if (asked.kept.size() < MOST_KEPT) {
                seen.add("then " + call + " -> " + asked.make(call));
            }
        }
        return seen;
    }

    private List<Call> questions(boolean withoutFault) {
        List<Call> all = new ArrayList<>();
        long places = answer("status", 0);
        long folk = answer("status", 2);
        for (int what = 0; what <= 10; what++) {
            all.add(new Call("status", what));
        }
        for (int what = 0; what < 2 && !withoutFault; what++) {
            all.add(new Call("fault", what));
        }
        for (int s = 0; s < 8; s++) {
            all.add(new Call("holds", s));
            for (int i = 0; i < 60 && answer("holds", s) >= 100; i++) {
                all.add(new Call("element", s, i));
            }
        }
        for (int f = 0; f < folk; f++) {
            all.add(new Call("cost", f));
            addAll(all, "where", f, 48);
            addAll(all, "knows", f, (int) answer("status", 7));
        }
        for (int m = 0; m < answer("status", 4); m++) {
            addAll(all, "met", m, 3);
        }
        for (int p = 0; p < places; p++) {
            addAll(all, "seated", p, 48);
            addAll(all, "far", p, (int) places);
        }
        return all;
    }

    private static void addAll(List<Call> all, String name, int first, int count) {
        for (int second = 0; second < count; second++) {
            all.add(new Call(name, first, second));
        }
    }

    /** Calls that bring out what can't be asked: homes, keys, likes, duties, bends, hours, seats. */
    private List<Call> future() {
        List<Call> all = new ArrayList<>();
        all.add(new Call("begin"));
        for (int f = 0; f < answer("status", 2); f++) {
            all.add(new Call("again", f));
            addAll(all, "where", f, 48);
        }
        for (int p = 0; p < answer("status", 0); p++) {
            all.add(new Call("lock", p, true));
        }
        all.add(new Call("tick", 48));
        for (int f = 0; f < answer("status", 2); f++) {
            all.add(new Call("cost", f));
            all.add(new Call("where", f, 24));
        }
        return all;
    }

    // ---- settings, and questions in numbers

    /** So many places, open all day, with so many seats each. */
    static Run places(int count, int seats) {
        Run x = new Run();
        for (int p = 0; p < count; p++) {
            x.does("place", seats, 0, 48);
        }
        return x;
    }

    /** Places in a line, two seats each, with ways of so many ticks, and folk with these homes. */
    static Run line(int count, int ticks, int... homes) {
        Run x = places(count, 2);
        for (int p = 1; p < count; p++) {
            x.does("way", p - 1, p, ticks);
        }
        return x.folk(homes);
    }

    Run folk(int... homes) {
        for (int home : homes) {
            does("folk", home);
        }
        return this;
    }

    Run fill(int s, int sort, long... cells) {
        does("row", s, sort, cells.length);
        for (int i = 0; i < cells.length; i++) {
            does("set", s, i, cells[i]);
        }
        return this;
    }

    Run tells(int who, long... duties) {
        return fill(6, 2, duties).does("duties", who, 6);
    }

    Run likes(int who, long... likes) {
        return fill(7, 0, likes).does("likes", who, 7);
    }

    /** All folk like all places so that a tick IN costs as much as one on a way: who needn't go stays. */
    Run restful() {
        fill(7, 0, 6, 6, 6, 6, 6, 6, 6, 6, 6, 6, 6, 6);
        for (int f = 0; f < answer("status", 2); f++) {
            does("likes", f, 7);
        }
        return this;
    }

    Run where(int who, int from, int to, int want) {
        for (int t = from; t < to; t++) {
            due(want, "where", who, t);
        }
        return this;
    }

    Run seated(int place, int from, int to, int want) {
        for (int t = from; t < to; t++) {
            due(want, "seated", place, t);
        }
        return this;
    }

    /** status(0), status(1), .. */
    Run status(int... want) {
        for (int what = 0; what < want.length; what++) {
            due(want[what], "status", what);
        }
        return this;
    }
}
