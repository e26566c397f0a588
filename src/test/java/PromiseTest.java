/** Each promise of the document by hand: ordinary calls, the edges it names, and the refusals. */
public final class PromiseTest {
    private static final int LOWEST = Integer.MIN_VALUE;
    private static final int HIGHEST = Integer.MAX_VALUE;
    private static int promise;
    private static int checks;
    private static int wrong;

    private static void due(String call, long got, long want) {
        checks++;
        if (got != want) {
            wrong++;
            System.out.println("promise " + promise + ": " + call + " answered " + got + ", due is " + want);
        }
    }

    /** So many places, open all day, two seats each, without ways. */
    private static TownFolk places(int count) {
        TownFolk x = new TownFolk();
        for (int p = 0; p < count; p++) {
            x.place(2, 0, 48);
        }
        return x;
    }

    /** Places in a line with ways of so many ticks, and folk with these homes. */
    private static TownFolk line(int count, int ticks, int... homes) {
        TownFolk x = places(count);
        for (int p = 1; p < count; p++) {
            x.way(p - 1, p, ticks);
        }
        for (int home : homes) {
            x.folk(home);
        }
        return x;
    }

    private static void fill(TownFolk x, int s, int sort, long... cells) {
        x.row(s, sort, cells.length);
        for (int i = 0; i < cells.length; i++) {
            x.set(s, i, cells[i]);
        }
    }

    /** All places are liked so that a tick IN costs as much as one on a way: folk then rest. */
    private static void restful(TownFolk x) {
        fill(x, 7, 0, 6, 6, 6, 6, 6, 6, 6, 6, 6, 6, 6, 6);
        for (int f = 0; f < x.status(2); f++) {
            x.likes(f, 7);
        }
    }

    private static void dueWhere(TownFolk x, int who, int from, int to, int want) {
        for (int t = from; t < to; t++) {
            due("where(" + who + ", " + t + ")", x.where(who, t), want);
        }
    }

    private static void dueStatus(TownFolk x, int... want) {
        for (int what = 0; what < want.length; what++) {
            due("status(" + what + ")", x.status(what), want[what]);
        }
    }

    private static void dueRefusals(TownFolk x, int... want) {
        for (int i = 0; i < want.length; i++) {
            due("status(" + (11 + i) + ")", x.status(11 + i), want[i]);
        }
    }

    private static void aNewObject() {
        TownFolk other = line(2, 1, 0);
        other.begin();
        other.tick(5);
        TownFolk x = new TownFolk();
        dueStatus(x, 0, 0, 0, 0, 0, 0, 0, 0, 0, 0, 0, 0, 0, 0, 0, 0, 0, 0, -1);
        for (int s = -1; s <= 8; s++) {
            due("holds", x.holds(s), -1);
            due("element", x.element(s, 0), 0);
        }
        due("far", x.far(0, 0), -1);
        due("where", x.where(0, 0), -1);
        due("cost", x.cost(0), -1);
        due("seated", x.seated(0, 0), -1);
        due("knows", x.knows(0, 0), -1);
        due("met", x.met(0, 0), -1);
        due("fault(0)", x.fault(0), 0);
        due("fault(1)", x.fault(1), -1);
        due("tick", x.tick(1), -6);
        due("begin", x.begin(), 0);
        due("tick", x.tick(48), 0);
        dueStatus(x, 0, 0, 0, 0, 0, 0, 1, 0, 0, 0, 0);
    }

    private static void place() {
        TownFolk x = new TownFolk();
        int[][] bad = {{0, 0, 48}, {10, 0, 48}, {-1, 0, 48}, {LOWEST, 0, 48}, {HIGHEST, 0, 48},
            {1, -1, 5}, {1, 5, 5}, {1, 6, 5}, {1, 0, 49}, {1, 48, 48}, {1, LOWEST, HIGHEST},
            {1, HIGHEST, LOWEST}, {1, 0, 0}, {1, 48, 49}};
        for (int[] b : bad) {
            due("place", x.place(b[0], b[1], b[2]), -6);
        }
        due("place", x.place(1, 0, 1), 0);
        due("place", x.place(9, 47, 48), 1);
        for (int p = 2; p < 12; p++) {
            due("place", x.place(p % 9 + 1, p, p + 3), p);
        }
        due("place 13", x.place(1, 0, 48), -7);
        due("place 13", x.place(0, 0, 48), -6);
        due("places", x.status(0), 12);
        x.begin();
        due("place behind", x.place(1, 0, 48), -6);
        dueRefusals(x, 0, 0, 0, 0, 0, bad.length + 2, 1);
        seatsAndHours();
    }

    private static void seatsAndHours() {
        TownFolk x = new TownFolk();
        x.place(3, 10, 20);
        for (int f = 0; f < 4; f++) {
            x.folk(0);
        }
        due("begin", x.begin(), 4);
        for (int f = 0; f < 3; f++) {
            dueWhere(x, f, 0, 10, 100);
            dueWhere(x, f, 10, 20, 0);
            dueWhere(x, f, 20, 48, 100);
            due("cost", x.cost(f), 38 * 20 + 10 * 4);
        }
        dueWhere(x, 3, 0, 48, 100);
        due("cost", x.cost(3), 48 * 20);
    }

    private static void way() {
        TownFolk x = places(3);
        int[][] none = {{-1, 0, 1}, {0, -1, 1}, {3, 0, 1}, {0, 3, 1}, {3, 3, 0}, {LOWEST, 0, 1},
            {0, HIGHEST, 1}, {12, 1, 1}};
        for (int[] b : none) {
            due("way", x.way(b[0], b[1], b[2]), -1);
        }
        int[][] bad = {{0, 0, 1}, {2, 2, 9}, {0, 1, 0}, {0, 1, 10}, {0, 1, -1}, {0, 1, HIGHEST}, {0, 1, LOWEST}};
        for (int[] b : bad) {
            due("way", x.way(b[0], b[1], b[2]), -6);
        }
        due("far", x.far(0, 1), -1);
        for (int w = 0; w < 9; w++) {
            due("way", x.way(w % 2, 1 - w % 2, 9 - w), 1);
            due("far", x.far(0, 1), 9 - w);
            due("far", x.far(1, 0), 9 - w);
        }
        for (int w = 9; w < 30; w++) {
            due("way", x.way(0, 1, 9), 1);
        }
        due("far", x.far(0, 1), 1);
        due("ways", x.status(1), 30);
        due("way 31", x.way(0, 1, 1), -7);
        due("way 31", x.way(0, 0, 1), -6);
        due("way 31", x.way(0, 3, 0), -1);
        x.begin();
        due("way behind", x.way(0, 1, 1), -6);
        due("way behind", x.way(0, 3, 1), -1);
        dueRefusals(x, none.length + 2, 0, 0, 0, 0, bad.length + 2, 1);
    }

    private static void folk() {
        TownFolk x = places(2);
        due("folk", x.folk(-1), -1);
        due("folk", x.folk(2), -1);
        due("folk", x.folk(LOWEST), -1);
        due("folk", x.folk(HIGHEST), -1);
        for (int f = 0; f < 20; f++) {
            due("folk", x.folk(f % 2), f);
        }
        due("folk 21", x.folk(0), -7);
        due("folk 21", x.folk(2), -1);
        x.begin();
        due("folk behind", x.folk(0), -6);
        due("folk behind", x.folk(2), -1);
        due("folk ever", x.status(2), 20);
        due("at home", x.where(19, 0), 101);
        due("at home", x.where(3, 0), 1);
        dueRefusals(x, 6, 0, 0, 0, 0, 1, 1);
    }

    private static void meeting() {
        TownFolk x = line(2, 1, 0, 1, 0);
        int[][] none = {{8, 0, 0, 1, 1}, {11, 0, 0, 1, 1}, {-1, 0, 0, 1, 1}, {LOWEST, 0, 0, 1, 1},
            {3, -1, 0, 1, 1}, {3, 2, 0, 1, 1}, {0, 2, 0, 1, 1}, {3, HIGHEST, 5, 4, 0}, {HIGHEST, 0, 0, 1, 1}};
        for (int[] b : none) {
            due("meeting", x.meeting(b[0], b[1], b[2], b[3], b[4]), -1);
        }
        int[][] bad = {{0, 0, 0, 1, 1}, {1, 0, 0, 1, 1}, {4, 0, 0, 1, 1}, {3, 0, 1, 1, 1}, {3, 0, -1, 1, 1},
            {3, 0, 2, 1, 1}, {3, 0, 0, 49, 1}, {3, 0, 0, 1, 0}, {3, 0, 0, 1, 101}, {3, 0, 0, 1, -1}};
        for (int[] b : bad) {
            due("meeting", x.meeting(b[0], b[1], b[2], b[3], b[4]), -6);
        }
        for (int m = 0; m < 10; m++) {
            due("meeting", x.meeting(m % 2 == 0 ? 7 : 5, m % 2, 4 * m, 4 * m + 3, m % 2 == 0 ? 1 : 100), m);
        }
        due("meeting 11", x.meeting(3, 0, 0, 1, 1), -7);
        due("meeting 11", x.meeting(1, 0, 0, 1, 1), -6);
        due("meeting 11", x.meeting(8, 0, 0, 1, 1), -1);
        due("meetings", x.status(4), 10);
        x.begin();
        due("meeting behind", x.meeting(3, 0, 0, 1, 1), -6);
        x.gone(2);
        due("meeting of one gone", x.meeting(5, 0, 0, 1, 1), -1);
        dueRefusals(x, none.length + 2, 0, 0, 0, 0, bad.length + 2, 1);
        meetingAsClaim();
    }

    private static void meetingAsClaim() {
        TownFolk x = line(2, 1, 0, 0, 0);
        x.meeting(5, 1, 20, 22, 7);
        x.meeting(6, 1, 46, 48, 100);
        restful(x);
        x.begin();
        dueWhere(x, 0, 0, 19, 0);
        dueWhere(x, 0, 19, 20, 201);
        dueWhere(x, 0, 20, 46, 1);
        dueWhere(x, 0, 46, 47, 212);
        dueWhere(x, 0, 47, 48, 0);
        due("cost", x.cost(0), 144);
        // two ticks of 100 are let go, for to be away in the last one costs 300
        due("cost", x.cost(1), 144 + 200);
        dueWhere(x, 1, 0, 48, 0);
        TownFolk y = line(3, 9, 0, 0);
        y.meeting(3, 2, 3, 5, 11);
        y.begin();
        due("meeting out of reach", y.cost(0), y.cost(1));
        TownFolk z = line(3, 9, 0, 0);
        z.begin();
        due("meeting out of reach", y.cost(0), z.cost(0) + 22);
    }

    private static void row() {
        TownFolk x = new TownFolk();
        due("row", x.row(-1, 0, 0), -1);
        due("row", x.row(8, 9, -1), -1);
        due("row", x.row(LOWEST, 0, 1), -1);
        due("row", x.row(HIGHEST, 0, 1), -1);
        due("row", x.row(0, 0, -1), -4);
        due("row", x.row(0, 4, LOWEST), -4);
        due("row", x.row(0, -1, 61), -6);
        due("row", x.row(0, 4, 0), -6);
        due("row", x.row(0, HIGHEST, 0), -6);
        due("row", x.row(0, 0, 61), -7);
        due("row", x.row(0, 3, HIGHEST), -7);
        due("holds", x.holds(0), -1);
        for (int s = 0; s < 8; s++) {
            due("row", x.row(s, s % 4, s == 7 ? 60 : s), 1);
            due("holds", x.holds(s), 100 + s % 4);
            due("set behind", x.set(s, s == 7 ? 60 : s, 1), -5);
        }
        due("set", x.set(7, 59, 4), 1);
        due("row again", x.row(7, 3, 60), 1);
        due("element is 0 again", x.element(7, 59), 0);
        due("a refused row", x.row(7, 3, 61), -7);
        due("holds", x.holds(7), 103);
        dueRefusals(x, 4, 0, 0, 2, 8, 3, 3);
    }

    private static void set() {
        TownFolk x = line(1, 1, 0);
        x.show(1, 0);
        x.row(2, 0, 3);
        due("set", x.set(-1, 0, 1), -1);
        due("set", x.set(8, 0, 1), -1);
        due("set", x.set(1, -1, 1), -2);
        due("set", x.set(0, -1, 1), -3);
        due("set", x.set(2, -1, 1), -5);
        due("set", x.set(2, 3, 1), -5);
        due("set", x.set(2, LOWEST, 1), -5);
        due("set", x.set(2, HIGHEST, 1), -5);
        long big = 0x123456789ABCDEF7L;
        long[][] kept = {{0, 127, 127}, {0, 128, -128}, {0, 255, -1}, {0, 256, 0}, {0, -129, 127},
            {1, 32767, 32767}, {1, 32768, -32768}, {1, 65536, 0}, {1, big, (short) 0xDEF7},
            {2, 1L << 31, LOWEST}, {2, 1L << 32, 0}, {2, big, (int) 0x9ABCDEF7L}, {0, big, (byte) 0xF7},
            {3, big, big}, {3, Long.MIN_VALUE, Long.MIN_VALUE}, {3, 1L << 32, 1L << 32}};
        for (long[] k : kept) {
            x.row(3, (int) k[0], 2);
            due("set", x.set(3, 1, k[1]), 1);
            due("element", x.element(3, 1), k[2]);
            due("element beside", x.element(3, 0), 0);
        }
        dueRefusals(x, 2, 1, 1, 0, 4, 0, 0);
    }

    private static void copy() {
        TownFolk x = line(1, 1, 0);
        fill(x, 0, 1, 1, 2, 3, 4, 5);
        fill(x, 1, 1, 10, 20, 30);
        fill(x, 2, 2, 7, 8, 9);
        x.show(3, 0);
        due("copy", x.copy(-1, 3, 0, 0, 1), -1);
        due("copy", x.copy(3, 8, 0, 0, 1), -1);
        due("copy", x.copy(3, 4, 0, 0, 1), -2);
        due("copy", x.copy(4, 3, 0, 0, 1), -2);
        due("copy", x.copy(3, 0, 0, 0, -1), -2);
        due("copy", x.copy(0, 3, 0, 0, -1), -2);
        due("copy", x.copy(0, 2, 0, 0, -1), -2);
        due("copy", x.copy(3, 3, 0, 0, 1), -2);
        due("copy", x.copy(0, 4, 0, 0, -1), -3);
        due("copy", x.copy(4, 0, 0, 0, -1), -3);
        due("copy", x.copy(4, 5, 0, 0, 1), -3);
        due("copy", x.copy(0, 1, -1, 0, -1), -4);
        due("copy", x.copy(0, 1, 0, 0, LOWEST), -4);
        int[][] beyond = {{-1, 0, 1}, {0, -1, 1}, {5, 0, 1}, {3, 0, 3}, {0, 1, 3}, {0, 3, 1}, {0, 0, 4}, {0, 0, 6},
            {6, 0, 0}, {0, 4, 0}, {-1, 0, 0}, {0, -1, 0}, {HIGHEST, 0, 1}, {0, HIGHEST, 1}, {1, 1, HIGHEST},
            {HIGHEST, HIGHEST, HIGHEST}, {LOWEST, 0, 1}, {LOWEST, LOWEST, HIGHEST}};
        for (int[] b : beyond) {
            due("copy", x.copy(0, 1, b[0], b[1], b[2]), -5);
        }
        due("nothing changed", x.element(1, 0) + x.element(1, 1) + x.element(1, 2), 60);
        due("copy none", x.copy(0, 1, 5, 3, 0), 1);
        due("copy", x.copy(0, 1, 3, 1, 2), 1);
        dueCells(x, 1, 10, 4, 5);
        due("copy up", x.copy(0, 0, 0, 1, 4), 1);
        dueCells(x, 0, 1, 1, 2, 3, 4);
        due("copy down", x.copy(0, 0, 2, 0, 3), 1);
        dueCells(x, 0, 2, 3, 4, 3, 4);
        due("copy all", x.copy(1, 0, 0, 2, 3), 1);
        dueCells(x, 0, 2, 3, 10, 4, 5);
        dueRefusals(x, 2, 6, 3, 2, beyond.length, 0, 0);
    }

    private static void dueCells(TownFolk x, int s, long... want) {
        for (int i = 0; i < want.length; i++) {
            due("element(" + s + ", " + i + ")", x.element(s, i), want[i]);
        }
        due("element behind", x.element(s, want.length), 0);
    }

    private static void element() {
        TownFolk x = line(1, 1, 0);
        fill(x, 0, 3, 5, Long.MAX_VALUE);
        x.show(1, 0);
        dueCells(x, 0, 5, Long.MAX_VALUE);
        int[][] none = {{0, -1}, {0, 2}, {0, LOWEST}, {0, HIGHEST}, {1, 0}, {2, 0}, {-1, 0}, {8, 0}, {LOWEST, HIGHEST}};
        for (int[] n : none) {
            due("element", x.element(n[0], n[1]), 0);
        }
        x.row(0, 3, 1);
        x.row(0, 3, 2);
        dueCells(x, 0, 0, 0);
        fill(x, 0, 3, 5, 6);
        x.show(0, -1);
        due("element of nothing", x.element(0, 0), 0);
        dueRefusals(x, 0, 0, 0, 0, 0, 0, 0);
    }

    private static void show() {
        TownFolk x = line(1, 1, 0, 0);
        due("show", x.show(-1, 0), -1);
        due("show", x.show(8, 0), -1);
        due("show", x.show(8, -1), -1);
        due("show", x.show(0, 2), -1);
        due("show", x.show(0, -2), -1);
        due("show", x.show(0, LOWEST), -1);
        due("show", x.show(0, HIGHEST), -1);
        due("show", x.show(0, 1), 1);
        due("holds", x.holds(0), 1);
        due("show", x.show(0, 7), -1);
        due("holds", x.holds(0), 1);
        due("show", x.show(7, -1), 0);
        due("show", x.show(0, -1), 0);
        due("holds", x.holds(0), -1);
        x.begin();
        x.gone(1);
        due("show one gone", x.show(0, 1), 1);
        due("holds", x.holds(0), 1);
        due("home of one gone", x.homeIn(0), 0);
        dueRefusals(x, 8, 0, 0, 0, 0, 0, 0);
    }

    private static void holds() {
        TownFolk x = line(1, 1, 0, 0);
        due("holds", x.holds(0), -1);
        for (int sort = 0; sort < 4; sort++) {
            x.row(0, sort, 0);
            due("holds", x.holds(0), 100 + sort);
        }
        x.show(0, 0);
        due("holds", x.holds(0), 0);
        x.row(0, 0, 3);
        due("holds", x.holds(0), 100);
        due("set", x.set(0, 2, 5), 1);
        x.show(0, 1);
        due("holds", x.holds(0), 1);
        due("no element is left", x.element(0, 2), 0);
        for (int s : new int[] {-1, 8, LOWEST, HIGHEST}) {
            due("holds", x.holds(s), -1);
        }
        dueRefusals(x, 0, 0, 0, 0, 0, 0, 0);
    }

    private static void homeIn() {
        TownFolk x = line(3, 1, 2, 1);
        x.show(0, 0);
        x.show(1, 1);
        x.row(2, 1, 4);
        due("homeIn", x.homeIn(0), 2);
        due("homeIn", x.homeIn(1), 1);
        due("homeIn", x.homeIn(2), -2);
        due("homeIn", x.homeIn(3), -3);
        due("homeIn", x.homeIn(-1), -1);
        due("homeIn", x.homeIn(8), -1);
        dueRefusals(x, 2, 1, 1, 0, 0, 0, 0);
    }

    private static void duties() {
        TownFolk x = line(2, 1, 0, 0);
        fill(x, 0, 2, 1, 5, 7, 50, 0, 8, 9, 1);
        x.show(1, 0);
        due("duties", x.duties(-1, 1), -1);
        due("duties", x.duties(2, 0), -1);
        due("duties", x.duties(0, -1), -1);
        due("duties", x.duties(0, 8), -1);
        due("duties", x.duties(0, 1), -2);
        due("duties", x.duties(0, 2), -3);
        due("duties", x.duties(0, 0), 2);
        restful(x);
        x.begin();
        dueWhere(x, 0, 0, 4, 0);
        dueWhere(x, 0, 4, 5, 201);
        dueWhere(x, 0, 5, 7, 1);
        dueWhere(x, 0, 7, 8, 212);
        dueWhere(x, 0, 8, 48, 0);
        due("cost", x.cost(0), 144);
        fill(x, 0, 2, 1, 5, 7, 50, 0, 7, 9, 1);
        due("a fault changes nothing", x.duties(0, 0), -6);
        due("again", x.again(0), 144);
        due("where", x.where(0, 6), 1);
        x.row(3, 0, 0);
        due("no duties", x.duties(0, 3), 0);
        due("again", x.again(0), 144);
        dueWhere(x, 0, 0, 48, 0);
        x.gone(1);
        due("duties of one gone", x.duties(1, 3), -1);
        dueRefusals(x, 5, 1, 1, 0, 0, 1, 0);
        dutiesOfTwelve();
    }

    private static void dutiesOfTwelve() {
        TownFolk x = line(1, 1, 0);
        x.row(0, 0, 48);
        for (int d = 0; d < 12; d++) {
            x.set(0, 4 * d + 1, 4 * d);
            x.set(0, 4 * d + 2, 4 * d + 4);
            x.set(0, 4 * d + 3, 100);
        }
        due("twelve duties", x.duties(0, 0), 12);
        x.begin();
        due("cost", x.cost(0), 192);
        due("lock", x.lock(0, true), 1);
        due("all duties cost", x.cost(0), 48 * 120);
        fill(x, 1, 3, 1L << 32, 7L << 32 | 3, 4, -1L << 32 | 9);
        due("longs give their lowest ints", x.duties(0, 1), 1);
        due("again", x.again(0), 48 * 20 + 9);
    }

    private static void dueFault(TownFolk x, int fault, int number, long... cells) {
        fill(x, 0, 2, cells);
        due("duties", x.duties(0, 0), fault == 0 ? cells.length / 4 : -6);
        due("fault(0)", x.fault(0), fault);
        due("fault(1)", x.fault(1), number);
    }

    /** Places 0, 1, 2 in a line, two ticks apart, and 3 without a way. */
    private static TownFolk lineAndOneAlone() {
        TownFolk x = line(3, 2, 0);
        x.place(1, 0, 48);
        return x;
    }

    private static void fault() {
        TownFolk x = lineAndOneAlone();
        dueFault(x, 0, -1);
        dueFault(x, 1, 0, 0);
        dueFault(x, 1, 0, 9, 9, 9, 9, 9);
        dueFault(x, 1, 0, new long[52]);
        dueFault(x, 1, 0, new long[60]);
        dueFault(x, 3, 0, new long[48]);
        dueFault(x, 2, 0, 4, 9, 9, 0);
        dueFault(x, 2, 0, -1, 0, 1, 1);
        dueFault(x, 2, 1, 0, 0, 1, 1, 4, 0, 0, 0);
        dueFault(x, 3, 0, 0, -1, 1, 0);
        dueFault(x, 3, 0, 0, 1, 1, 0);
        dueFault(x, 3, 0, 0, 2, 1, 0);
        dueFault(x, 3, 0, 0, 0, 49, 0);
        dueFault(x, 4, 0, 0, 0, 48, 0);
        dueFault(x, 4, 0, 0, 0, 48, 101);
        dueFault(x, 4, 0, 0, 0, 48, -1);
        dueFault(x, 4, 1, 0, 0, 5, 100, 0, 4, 5, 0);
        dueFault(x, 5, 1, 0, 0, 5, 100, 1, 4, 6, 1);
        dueFault(x, 5, 1, 0, 4, 6, 1, 1, 0, 5, 1);
        dueFault(x, 5, 1, 0, 4, 6, 1, 0, 3, 9, 1);
        dueFault(x, 5, 2, 0, 4, 6, 1, 0, 6, 8, 1, 0, 5, 6, 1);
        dueFault(x, 0, -1, 0, 4, 6, 1, 0, 6, 8, 100, 0, 0, 4, 1);
        faultsOfNeighbours();
        faultOfTheLatestRow();
    }

    private static void faultsOfNeighbours() {
        TownFolk x = lineAndOneAlone();
        dueFault(x, 6, 1, 0, 4, 6, 1, 1, 7, 8, 1);
        dueFault(x, 0, -1, 0, 4, 6, 1, 1, 8, 9, 1);
        dueFault(x, 6, 1, 0, 4, 6, 1, 1, 2, 3, 1);
        dueFault(x, 0, -1, 0, 4, 6, 1, 1, 1, 2, 1);
        dueFault(x, 6, 1, 0, 4, 6, 1, 2, 9, 10, 1);
        dueFault(x, 0, -1, 0, 4, 6, 1, 2, 10, 11, 1);
        dueFault(x, 6, 1, 0, 4, 6, 1, 3, 30, 31, 1);
        // the neighbours in time are asked, not those in the row
        dueFault(x, 6, 2, 0, 4, 6, 1, 2, 20, 22, 1, 1, 19, 20, 1);
        dueFault(x, 6, 2, 2, 20, 22, 1, 0, 4, 6, 1, 1, 7, 8, 1);
        dueFault(x, 0, -1, 2, 20, 22, 1, 0, 4, 6, 1, 1, 8, 18, 1);
        dueFault(x, 0, -1, 0, 2, 3, 1, 1, 5, 6, 1, 2, 8, 9, 1);
        dueFault(x, 0, -1, 2, 8, 9, 1, 1, 5, 6, 1, 0, 2, 3, 1);
    }

    private static void faultOfTheLatestRow() {
        TownFolk x = lineAndOneAlone();
        dueFault(x, 2, 1, 0, 4, 6, 1, 9, 5, 4, 0, 9, 9, 9, 9);
        due("duties", x.duties(0, 5), -3);
        due("still the fault of the latest row", x.fault(0), 2);
        x.duties(9, 0);
        due("still the fault of the latest row", x.fault(1), 1);
        for (int what : new int[] {-1, 2, LOWEST, HIGHEST}) {
            due("fault", x.fault(what), -1);
        }
    }

    private static void likes() {
        TownFolk x = line(2, 1, 0, 0);
        x.show(1, 0);
        fill(x, 0, 0, 6, 6, 10);
        due("likes", x.likes(-1, 0), -1);
        due("likes", x.likes(2, 1), -1);
        due("likes", x.likes(0, 8), -1);
        due("likes", x.likes(0, -1), -1);
        due("likes", x.likes(0, 1), -2);
        due("likes", x.likes(0, 2), -3);
        due("likes of the places alone", x.likes(0, 0), 2);
        fill(x, 0, 1, 9);
        due("likes of one", x.likes(1, 0), 1);
        fill(x, 0, 1, 0, 10);
        due("likes", x.likes(1, 0), -6);
        fill(x, 0, 1, 0, -1);
        due("likes", x.likes(1, 0), -6);
        x.begin();
        due("cost", x.cost(0), 144);
        due("cost", x.cost(1), 0);
        dueWhere(x, 0, 0, 48, 0);
        fill(x, 0, 3, 7L << 32, 1L << 32 | 9);
        due("likes of longs", x.likes(1, 0), 2);
        due("cost as it was", x.cost(1), 0);
        due("again", x.again(1), 3 + 3 + 9);
        dueWhere(x, 1, 1, 46, 1);
        x.row(0, 0, 0);
        due("no likes", x.likes(0, 0), 0);
        due("again", x.again(0), 144);
        x.gone(1);
        due("likes of one gone", x.likes(1, 0), -1);
        dueRefusals(x, 5, 1, 1, 0, 0, 2, 0);
        likesAreFiveAtFirst();
    }

    private static void likesAreFiveAtFirst() {
        TownFolk x = new TownFolk();
        for (int p = 0; p < 12; p++) {
            x.place(1, 0, 48);
            x.folk(p);
        }
        x.begin();
        for (int p = 0; p < 12; p++) {
            due("cost", x.cost(p), 192);
        }
    }

    private static void key() {
        TownFolk x = new TownFolk();
        x.place(1, 10, 20);
        x.place(1, 0, 1);
        x.folk(0);
        x.folk(0);
        due("key", x.key(-1, 0, true), -1);
        due("key", x.key(2, 0, true), -1);
        due("key", x.key(0, -1, true), -1);
        due("key", x.key(0, 2, false), -1);
        due("key", x.key(0, 33, false), -1);
        due("key", x.key(0, 0, false), 0);
        due("key", x.key(0, 0, true), 1);
        due("key", x.key(0, 0, true), 0);
        due("key", x.key(0, 1, true), 1);
        due("key", x.key(0, 1, false), 1);
        due("key", x.key(1, 1, true), 1);
        x.begin();
        dueWhere(x, 0, 0, 48, 0);
        due("cost", x.cost(0), 192);
        dueWhere(x, 1, 0, 48, 100);
        due("key", x.key(0, 0, false), 1);
        due("as it was", x.where(0, 0), 0);
        due("again", x.again(0), 38 * 20 + 40);
        dueWhere(x, 0, 0, 10, 100);
        dueWhere(x, 0, 10, 20, 0);
        x.gone(1);
        due("key of one gone", x.key(1, 0, true), -1);
        dueRefusals(x, 6, 0, 0, 0, 0, 0, 0);
    }

    private static void begin() {
        TownFolk x = line(2, 1, 0, 1, 0);
        due("begin", x.begin(), 3);
        due("begin", x.begin(), -6);
        due("plans", x.status(10), 3);
        dueRefusals(x, 0, 0, 0, 0, 0, 1, 0);
        // a tick on a way is a little cheaper than one IN: of two that must be IN one is the first
        due("where", x.where(0, 0), 0);
        for (int t = 1; t < 47; t++) {
            due("where", x.where(0, t), t % 2 == 1 ? 201 : 212);
        }
        due("where", x.where(0, 47), 0);
        due("cost", x.cost(0), 46 * 3 + 8);
        outBeforeGoing();
        lesserPlaceFirst();
        wayBehindTheDay();
        seatsOfOthers();
    }

    private static void outBeforeGoing() {
        TownFolk x = new TownFolk();
        x.place(1, 47, 48);
        x.place(1, 11, 48);
        x.way(0, 1, 2);
        x.folk(0);
        fill(x, 0, 0, 1, 11, 14, 100);
        x.duties(0, 0);
        fill(x, 0, 0, 5, 9);
        x.likes(0, 0);
        x.begin();
        dueWhere(x, 0, 0, 1, 100);
        dueWhere(x, 0, 1, 3, 201);
        dueWhere(x, 0, 3, 5, 212);
        dueWhere(x, 0, 9, 11, 201);
        dueWhere(x, 0, 11, 45, 1);
        dueWhere(x, 0, 45, 47, 212);
        dueWhere(x, 0, 47, 48, 0);
        due("cost", x.cost(0), 20 + 30 + 6 + 4);
    }

    private static void lesserPlaceFirst() {
        TownFolk x = places(4);
        x.way(3, 2, 1);
        x.way(3, 1, 1);
        x.way(0, 3, 1);
        x.folk(3);
        x.begin();
        due("IN first", x.where(0, 0), 3);
        due("the lesser place", x.where(0, 1), 200 + 36);
        TownFolk y = places(4);
        y.way(3, 2, 1);
        y.way(3, 1, 1);
        y.folk(3);
        y.begin();
        due("the lesser place", y.where(0, 1), 200 + 37);
        due("the lesser place", y.where(0, 2), 200 + 15);
    }

    private static void wayBehindTheDay() {
        TownFolk x = line(2, 9, 0);
        fill(x, 0, 0, 1, 9, 42, 100);
        x.duties(0, 0);
        x.begin();
        dueWhere(x, 0, 0, 9, 201);
        dueWhere(x, 0, 9, 42, 1);
        dueWhere(x, 0, 42, 48, 212);
        due("cost", x.cost(0), 27 + 33 * 4 + 6 * 3 + 300);
        fill(x, 0, 0, 1, 9, 38, 100);
        x.duties(0, 0);
        due("home in time", x.again(0), 27 + 29 * 4 + 27 + 4);
        fill(x, 0, 0, 1, 9, 39, 100);
        x.duties(0, 0);
        due("one tick of the duty is let go", x.again(0), 27 + 29 * 4 + 27 + 4 + 100);
        x.tick(48);
        due("the next day begins at home", x.where(0, 0), 201);
        TownFolk y = line(2, 6, 0);
        fill(y, 0, 0, 1, 6, 42, 100);
        y.duties(0, 0);
        y.begin();
        due("home for the last tick", y.cost(0), 18 + 35 * 4 + 18 + 4 + 100);
        due("home behind the last tick, of two that cost the same", y.bend(0, 1, 6, 42), 18 + 36 * 4 + 18 + 300);
        dueWhere(y, 0, 6, 42, 1);
        dueWhere(y, 0, 42, 48, 212);
    }

    private static void seatsOfOthers() {
        TownFolk x = new TownFolk();
        x.place(1, 0, 48);
        x.folk(0);
        x.folk(0);
        x.begin();
        dueWhere(x, 0, 0, 48, 0);
        dueWhere(x, 1, 0, 48, 100);
        due("others' plans are as they are", x.again(1), 960);
        due("one's own seat is free to one", x.again(0), 192);
        x.gone(0);
        due("the seat is free", x.again(1), 192);
    }

    private static void tick() {
        TownFolk x = line(2, 1, 0, 1);
        due("tick", x.tick(1), -6);
        due("tick", x.tick(0), -6);
        x.begin();
        for (int n : new int[] {0, -1, 49, LOWEST, HIGHEST}) {
            due("tick", x.tick(n), -6);
        }
        due("tick", x.tick(1), 1);
        due("tick", x.tick(46), 47);
        dueStatus(x, 2, 1, 2, 2, 0, 47, 0, 0, 0, 0, 2);
        due("tick", x.tick(2), 1);
        dueStatus(x, 2, 1, 2, 2, 0, 1, 1, 0, 0, 0, 4);
        for (int day = 1; day < 20; day++) {
            due("tick", x.tick(48), 1);
        }
        due("days", x.status(6), 20);
        due("tick", x.tick(47), -7);
        due("tick", x.tick(46), 47);
        due("tick", x.tick(1), -7);
        due("tick", x.tick(48), -7);
        due("tick", x.tick(49), -6);
        dueStatus(x, 2, 1, 2, 2, 0, 47, 20, 0, 0, 0, 42);
        dueRefusals(x, 0, 0, 0, 0, 0, 8, 3);
        aDayEnds();
    }

    private static void aDayEnds() {
        TownFolk x = line(2, 1, 0, 0, 1);
        restful(x);
        x.begin();
        due("bend", x.bend(0, 1, 5, 8), 144);
        due("lock", x.lock(0, true), 2);
        x.gone(1);
        x.tick(47);
        dueStatus(x, 2, 1, 3, 2, 0, 47, 0, 0, 1, 1);
        x.tick(1);
        dueStatus(x, 2, 1, 3, 2, 0, 0, 1, 0, 0, 0);
        dueWhere(x, 0, 0, 48, 0);
        dueWhere(x, 1, 0, 48, -1);
        dueWhere(x, 2, 0, 48, 1);
        due("seated", x.seated(0, 0), 1);
        due("plans", x.status(10), 3 + 1 + 2 + 2);
    }

    private static void bend() {
        TownFolk x = line(3, 1, 0, 0);
        x.place(1, 0, 48);
        restful(x);
        due("bend", x.bend(2, 0, 1, 0), -1);
        due("bend", x.bend(-1, 0, 0, 1), -1);
        due("bend", x.bend(0, 4, 0, 1), -1);
        due("bend", x.bend(0, -1, 0, 1), -1);
        due("bend ahead", x.bend(0, 0, 0, 1), -6);
        x.begin();
        due("bend", x.bend(0, 1, 1, 1), -6);
        due("bend", x.bend(0, 1, -1, 1), -6);
        due("bend", x.bend(0, 1, 2, 1), -6);
        due("bend", x.bend(0, 1, 0, 49), -6);
        due("bent", x.status(8), 0);
        due("bend", x.bend(0, 1, 10, 12), 144);
        due("bent", x.status(8), 1);
        dueWhere(x, 0, 0, 9, 0);
        dueWhere(x, 0, 9, 10, 201);
        dueWhere(x, 0, 10, 46, 1);
        dueWhere(x, 0, 46, 47, 212);
        dueWhere(x, 0, 47, 48, 0);
        dueWhere(x, 1, 0, 48, 0);
        due("a newer bend", x.bend(0, 1, 20, 48), 143 - 2 + 303);
        dueWhere(x, 0, 0, 19, 0);
        dueWhere(x, 0, 20, 48, 1);
        due("bent", x.status(8), 1);
        due("out of reach", x.bend(0, 3, 40, 43), 144 + 600);
        due("bend of another", x.bend(1, 0, 0, 48), 144);
        due("bent", x.status(8), 2);
        x.tick(42);
        due("the rest of the span", x.again(0), 18 + 200);
        due("a span that is over", x.bend(0, 1, 0, 42), 18);
        x.gone(1);
        due("bend of one gone", x.bend(1, 0, 0, 1), -1);
        dueRefusals(x, 5, 0, 0, 0, 0, 5, 0);
        bendOnAWay();
        bendAgainstDuty();
    }

    private static void bendOnAWay() {
        TownFolk x = line(2, 5, 0);
        restful(x);
        x.begin();
        due("bend", x.bend(0, 1, 5, 6), 144);
        x.tick(2);
        due("bend on a way", x.bend(0, 0, 3, 48), 9 + 400 + 15 + 1000 + 38 * 3);
        dueWhere(x, 0, 0, 5, 201);
        dueWhere(x, 0, 5, 10, 212);
        dueWhere(x, 0, 10, 48, 0);
        x.tick(3);
        due("at the way's end one may choose", x.bend(0, 1, 5, 48), 43 * 3 + 300);
        dueWhere(x, 0, 5, 48, 1);
        x.bend(0, 0, 47, 48);
        x.tick(37);
        due("a way that begins now is not yet gone", x.where(0, 42), 212);
        due("bend", x.bend(0, 1, 42, 48), 6 * 3 + 300);
        dueWhere(x, 0, 42, 48, 1);
        TownFolk z = line(2, 5, 0);
        restful(z);
        z.begin();
        z.bend(0, 1, 5, 6);
        z.tick(4);
        due("bend in a way's last tick", z.bend(0, 0, 10, 48), 3 + 15 + 38 * 3);
        due("the way is gone to its end", z.where(0, 4), 201);
        due("and then the way back", z.where(0, 5), 212);
        TownFolk y = line(2, 9, 0);
        y.begin();
        y.bend(0, 1, 9, 42);
        y.tick(44);
        due("on a way behind the day", y.where(0, 44), 212);
        due("again on a way behind the day", y.bend(0, 1, 45, 47), 12 + 400 + 300);
        dueWhere(y, 0, 42, 48, 212);
    }

    private static void bendAgainstDuty() {
        TownFolk x = line(2, 1, 0);
        restful(x);
        fill(x, 0, 0, 0, 10, 12, 100);
        x.duties(0, 0);
        x.begin();
        due("a bend outweighs a duty", x.bend(0, 1, 10, 12), 144 + 200);
        due("where", x.where(0, 10), 1);
    }

    private static void lock() {
        TownFolk x = new TownFolk();
        x.place(2, 0, 48);
        x.place(1, 0, 48);
        x.way(0, 1, 1);
        x.folk(0);
        x.folk(0);
        restful(x);
        x.key(0, 0, true);
        due("lock", x.lock(2, true), -1);
        due("lock", x.lock(-1, false), -1);
        due("lock ahead", x.lock(0, true), -6);
        due("lock ahead", x.lock(0, false), -6);
        x.begin();
        due("unlock", x.lock(0, false), 0);
        due("nobody is due there", x.lock(1, true), 0);
        due("locked", x.status(9), 1);
        due("plans", x.status(10), 2);
        due("unlock", x.lock(1, false), 0);
        due("lock", x.lock(0, true), 2);
        due("lock", x.lock(0, true), 0);
        due("plans", x.status(10), 4);
        due("locked", x.status(9), 1);
        // the first takes the seat of place 1, the other walks to and fro
        due("where", x.where(0, 0), 201);
        dueWhere(x, 0, 1, 46, 1);
        due("where", x.where(0, 46), 212);
        due("a key opens no lock", x.where(0, 47), 100);
        due("cost", x.cost(0), 47 * 3 + 20);
        due("where", x.where(1, 0), 100);
        due("where", x.where(1, 1), 201);
        due("where", x.where(1, 47), 100);
        due("cost", x.cost(1), 46 * 3 + 40);
        due("unlock", x.lock(0, false), 0);
        due("nobody is planned anew", x.where(0, 1), 1);
        due("plans", x.status(10), 4);
        dueRefusals(x, 2, 0, 0, 0, 0, 2, 0);
        lockInTheDay();
    }

    private static void lockInTheDay() {
        TownFolk x = line(2, 1, 0, 1);
        restful(x);
        x.begin();
        x.bend(0, 1, 5, 6);
        x.bend(0, 0, 10, 11);
        x.tick(5);
        due("who was IN it alone earlier is left in peace", x.lock(1, true), 1);
        due("where", x.where(1, 5), 212);
        due("what was lived stays", x.where(1, 4), 1);
        due("lock of the other", x.lock(0, true), 2);
        due("locked", x.status(9), 2);
        x.gone(0);
        x.lock(0, false);
        x.again(1);
        due("lock", x.lock(0, true), 1);
        due("now is later", x.where(0, 5), -1);
    }

    private static void again() {
        TownFolk x = line(2, 1, 0, 0);
        restful(x);
        due("again", x.again(-1), -1);
        due("again", x.again(2), -1);
        due("again ahead", x.again(0), -6);
        x.begin();
        fill(x, 0, 0, 9, 9);
        x.likes(0, 0);
        due("cost as it was", x.cost(0), 144);
        due("again", x.again(0), 0);
        due("cost", x.cost(0), 0);
        fill(x, 0, 0, 1, 5, 6, 10);
        x.duties(0, 0);
        due("where as it was", x.where(0, 5), 0);
        x.tick(2);
        due("again", x.again(0), 6);
        due("where", x.where(0, 5), 1);
        due("plans", x.status(10), 4);
        due("cost of another", x.cost(1), 144);
        x.gone(0);
        due("again of one gone", x.again(0), -1);
        dueRefusals(x, 3, 0, 0, 0, 0, 1, 0);
    }

    private static void gone() {
        TownFolk x = line(1, 1, 0, 0, 0);
        due("gone", x.gone(-1), -1);
        due("gone", x.gone(3), -1);
        due("gone ahead", x.gone(0), -6);
        x.begin();
        x.tick(10);
        due("gone", x.gone(1), 2);
        due("gone", x.gone(1), -1);
        dueWhere(x, 1, 0, 10, 0);
        dueWhere(x, 1, 10, 48, -1);
        due("seated", x.seated(0, 9), 2);
        due("seated", x.seated(0, 10), 1);
        due("nobody is planned anew", x.where(2, 10), 100);
        due("plans", x.status(10), 3);
        due("not gone", x.status(3), 2);
        due("folk ever", x.status(2), 3);
        due("cost", x.cost(1), -1);
        due("again", x.again(2), 38 * 4);
        x.tick(48);
        dueWhere(x, 1, 0, 48, -1);
        due("plans", x.status(10), 6);
        due("gone", x.gone(0), 1);
        due("gone", x.gone(2), 0);
        due("seated", x.seated(0, 10), 0);
        dueRefusals(x, 3, 0, 0, 0, 0, 1, 0);
    }

    private static void happen() {
        TownFolk x = line(2, 3, 0, 0, 0, 1);
        restful(x);
        due("happen", x.happen(-1), -1);
        due("happen", x.happen(2), -1);
        due("happen ahead", x.happen(0), -6);
        x.begin();
        due("two are IN", x.where(0, 0) + x.where(1, 0), 0);
        due("one is OUT", x.where(2, 0), 201);
        x.bend(2, 0, 0, 1);
        due("happen", x.happen(0), 0);
        due("knows", x.knows(0, 0), 0);
        due("knows", x.knows(1, 0), 0);
        due("knows who is elsewhere", x.knows(3, 0), -1);
        x.tick(4);
        for (int fact = 1; fact < 12; fact++) {
            due("happen", x.happen(1), fact);
            due("knows", x.knows(3, fact), 4);
        }
        due("fact 13", x.happen(1), -7);
        due("fact 13", x.happen(2), -1);
        due("facts", x.status(7), 12);
        dueRefusals(x, 3, 0, 0, 0, 0, 1, 1);
    }

    private static void where() {
        TownFolk x = line(2, 2, 0, 0, 0);
        restful(x);
        due("where ahead", x.where(0, 0), -1);
        x.lock(0, true);
        x.begin();
        due("where", x.where(0, -1), -1);
        due("where", x.where(0, 48), -1);
        due("where", x.where(0, LOWEST), -1);
        due("where", x.where(0, HIGHEST), -1);
        due("where", x.where(-1, 0), -1);
        due("where", x.where(3, 0), -1);
        x.bend(1, 1, 4, 5);
        due("where", x.where(1, 1), 0);
        due("where", x.where(1, 2), 201);
        due("where", x.where(1, 3), 201);
        due("where", x.where(1, 4), 1);
        x.lock(1, true);
        x.again(1);
        x.tick(6);
        due("what was lived", x.where(1, 0), 0);
        x.lock(0, true);
        due("where", x.where(0, 47), 100);
        due("where", x.where(0, 5), 0);
        dueRefusals(x, 0, 0, 0, 0, 0, 1, 0);
    }

    private static void cost() {
        TownFolk x = line(1, 1, 0, 0);
        due("cost ahead", x.cost(0), -1);
        x.begin();
        due("cost", x.cost(0), 192);
        due("cost", x.cost(-1), -1);
        due("cost", x.cost(2), -1);
        x.tick(8);
        due("as last made", x.cost(0), 192);
        due("again", x.again(0), 160);
        due("cost", x.cost(0), 160);
        due("cost", x.cost(1), 192);
        x.gone(1);
        due("cost of one gone", x.cost(1), -1);
        x.tick(40);
        due("cost", x.cost(0), 192);
        dueRefusals(x, 0, 0, 0, 0, 0, 0, 0);
    }

    private static void seated() {
        TownFolk x = line(2, 1, 0, 0, 0);
        due("seated ahead", x.seated(0, 0), -1);
        restful(x);
        x.begin();
        due("seated", x.seated(0, 0), 2);
        due("seated", x.seated(1, 0), 0);
        due("seated", x.seated(1, 1), 1);
        due("seated", x.seated(0, 47), 2);
        for (int[] none : new int[][] {{-1, 0}, {2, 0}, {0, -1}, {0, 48}, {LOWEST, 0}, {0, HIGHEST}}) {
            due("seated", x.seated(none[0], none[1]), -1);
        }
        x.tick(5);
        x.lock(0, true);
        due("as they were", x.seated(0, 4), 2);
        due("as they are", x.seated(0, 5), 0);
        dueRefusals(x, 0, 0, 0, 0, 0, 0, 0);
    }

    private static void knows() {
        TownFolk x = line(2, 1, 0, 0, 1, 0);
        restful(x);
        x.begin();
        x.tick(48);
        due("OUT or on a way", x.where(3, 0), 201);
        x.happen(0);
        due("knows", x.knows(0, 0), 48);
        due("knows", x.knows(1, 0), 48);
        due("knows", x.knows(2, 0), -1);
        due("on a way", x.knows(3, 0), -1);
        x.gone(3);
        x.bend(0, 1, 5, 6);
        x.tick(5);
        due("not yet", x.knows(2, 0), -1);
        x.tick(1);
        due("told", x.knows(2, 0), 53);
        due("as it was", x.knows(0, 0), 48);
        x.happen(1);
        due("knows", x.knows(2, 1), 54);
        x.gone(2);
        x.tick(3);
        due("gone ones, too", x.knows(2, 0), 53);
        due("gone ones learn no more", x.knows(3, 0), -1);
        x.happen(1);
        due("gone ones learn no more", x.knows(2, 2), -1);
        for (int[] none : new int[][] {{-1, 0}, {4, 0}, {0, -1}, {0, 3}, {0, 12}, {HIGHEST, 0}, {0, LOWEST}}) {
            due("knows", x.knows(none[0], none[1]), -1);
        }
        dueRefusals(x, 0, 0, 0, 0, 0, 0, 0);
        outTellsNothing();
    }

    private static void outTellsNothing() {
        TownFolk x = new TownFolk();
        x.place(1, 3, 48);
        x.place(2, 0, 48);
        x.folk(0);
        x.folk(0);
        x.begin();
        x.happen(1);
        due("nobody is there", x.knows(0, 0), -1);
        x.happen(0);
        due("OUT sees", x.knows(0, 1), 0);
        due("OUT sees", x.knows(1, 1), 0);
        TownFolk z = new TownFolk();
        z.place(1, 0, 48);
        z.place(1, 20, 48);
        z.folk(1);
        z.folk(0);
        z.begin();
        z.happen(1);
        due("OUT sees", z.knows(0, 0), 0);
        due("who is elsewhere does not", z.knows(1, 0), -1);
        whoLeftTellsNothing();
        TownFolk y = new TownFolk();
        y.place(1, 0, 48);
        y.place(2, 0, 48);
        y.way(0, 1, 1);
        y.folk(0);
        y.folk(0);
        y.folk(1);
        restful(y);
        y.begin();
        y.tick(1);
        y.bend(2, 0, 10, 11);
        y.happen(1);
        due("knows", y.knows(2, 0), 1);
        y.tick(10);
        due("OUT tells nobody", y.knows(0, 0), -1);
    }

    private static void whoLeftTellsNothing() {
        TownFolk x = line(2, 1, 0, 1);
        restful(x);
        x.begin();
        x.happen(0);
        x.bend(0, 1, 5, 10);
        x.bend(1, 0, 5, 10);
        x.tick(8);
        due("where", x.where(0, 7), 1);
        due("where", x.where(1, 7), 0);
        due("who came when the other had left", x.knows(1, 0), -1);
        x.bend(0, 0, 20, 21);
        x.bend(1, 0, 20, 21);
        x.tick(13);
        due("told at last", x.knows(1, 0), 20);
    }

    private static void met() {
        TownFolk x = line(2, 1, 0, 0, 1);
        x.meeting(3, 1, 10, 13, 50);
        x.meeting(6, 0, 20, 22, 40);
        x.meeting(5, 0, 46, 48, 1);
        restful(x);
        due("met ahead", x.met(0, 0), 0);
        x.begin();
        due("met", x.met(0, 0), 0);
        x.tick(10);
        due("met", x.met(0, 2), 0);
        x.tick(1);
        due("met", x.met(0, 0), 1);
        due("met", x.met(0, 2), 3);
        x.gone(0);
        x.tick(1);
        due("a meeting of one gone", x.met(0, 0), 1);
        due("met", x.met(0, 2), 3);
        x.tick(35);
        due("met", x.met(1, 0), 2);
        due("met", x.met(1, 1), 2);
        due("met", x.met(1, 2), 6);
        x.tick(1);
        due("a new day", x.met(0, 0), 0);
        due("ever", x.met(0, 1), 1);
        due("a new day", x.met(0, 2), 0);
        x.tick(47);
        due("met", x.met(0, 0), 0);
        due("met", x.met(0, 2), 2);
        due("met", x.met(1, 0), 2);
        due("ever", x.met(1, 1), 4);
        for (int[] none : new int[][] {{-1, 0}, {3, 0}, {0, -1}, {0, 3}, {LOWEST, 0}, {0, HIGHEST}}) {
            due("met", x.met(none[0], none[1]), -1);
        }
        dueRefusals(x, 0, 0, 0, 0, 0, 0, 0);
    }

    private static void far() {
        TownFolk x = line(4, 9);
        x.place(1, 0, 48);
        due("far", x.far(0, 0), 0);
        due("far", x.far(0, 3), 27);
        due("far", x.far(3, 0), 27);
        due("far", x.far(0, 4), -1);
        due("far", x.far(4, 4), 0);
        x.way(0, 3, 9);
        due("far", x.far(0, 2), 18);
        due("far", x.far(1, 3), 18);
        x.way(1, 3, 2);
        due("far", x.far(1, 2), 9);
        due("far", x.far(0, 3), 9);
        x.way(2, 3, 1);
        due("far", x.far(1, 2), 3);
        due("far", x.far(0, 2), 10);
        x.way(4, 3, 4);
        due("far", x.far(1, 4), 6);
        for (int[] none : new int[][] {{-1, 0}, {0, -1}, {5, 0}, {0, 5}, {LOWEST, 0}, {0, HIGHEST}, {5, 5}}) {
            due("far", x.far(none[0], none[1]), -1);
        }
        dueRefusals(x, 0, 0, 0, 0, 0, 0, 0);
    }

    private static void status() {
        TownFolk x = line(3, 1, 0, 1, 2);
        x.meeting(3, 0, 0, 1, 1);
        x.begin();
        x.tick(4);
        x.happen(0);
        x.bend(1, 0, 20, 21);
        int planned = x.lock(2, true);
        x.gone(2);
        dueStatus(x, 3, 2, 3, 2, 1, 4, 0, 1, 1, 1, 4 + planned, 0, 0, 0, 0, 0, 0, 0);
        x.show(0, 0);
        x.row(2, 0, 1);
        x.folk(9);
        for (int i = 0; i < 2; i++) {
            x.set(0, 0, 0);
        }
        for (int i = 0; i < 3; i++) {
            x.set(1, 0, 0);
        }
        for (int i = 0; i < 4; i++) {
            x.row(1, 0, -1);
        }
        for (int i = 0; i < 5; i++) {
            x.set(2, 1, 0);
        }
        for (int i = 0; i < 6; i++) {
            x.begin();
        }
        for (int i = 0; i < 7; i++) {
            x.row(1, 0, 61);
        }
        dueRefusals(x, 1, 2, 3, 4, 5, 6, 7);
        for (int what : new int[] {-1, 18, LOWEST, HIGHEST, -7, 10 + HIGHEST}) {
            due("status", x.status(what), -1);
        }
        bentAndGone();
    }

    private static void bentAndGone() {
        TownFolk x = line(2, 1, 0, 1, 0);
        restful(x);
        x.begin();
        x.bend(0, 1, 5, 6);
        x.bend(1, 0, 5, 6);
        due("bent", x.status(8), 2);
        x.gone(2);
        due("one not bent is gone", x.status(8), 2);
        x.gone(1);
        due("one bent is gone", x.status(8), 1);
        x.tick(47);
        due("bent", x.status(8), 1);
        x.gone(0);
        due("all bent are gone", x.status(8), 0);
        x.tick(1);
        due("a new day", x.status(8), 0);
    }

    public static void main(String[] args) {
        for (promise = 1; promise <= 30; promise++) {
            check();
        }
        System.out.println("PromiseTest: " + checks + " answers, " + wrong + " of them not as due");
        if (wrong != 0) {
            System.exit(1);
        }
    }

    private static void check() {
        switch (promise) {
            case 1: aNewObject(); break;
            case 2: place(); break;
            case 3: way(); break;
            case 4: folk(); break;
            case 5: meeting(); break;
            case 6: row(); break;
            case 7: set(); break;
            case 8: copy(); break;
            case 9: element(); break;
            case 10: show(); break;
            case 11: holds(); break;
            case 12: homeIn(); break;
            case 13: duties(); break;
            case 14: fault(); break;
            case 15: likes(); break;
            case 16: key(); break;
            case 17: begin(); break;
            case 18: tick(); break;
            case 19: bend(); break;
            case 20: lock(); break;
            case 21: again(); break;
            case 22: gone(); break;
            case 23: happen(); break;
            case 24: where(); break;
            case 25: cost(); break;
            case 26: seated(); break;
            case 27: knows(); break;
            case 28: met(); break;
            case 29: far(); break;
            case 30: status(); break;
            default: throw new IllegalStateException("no test of promise " + promise);
        }
    }
}
