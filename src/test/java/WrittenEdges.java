/** Promises 13 to 16, and the faults of part 4 of the terms: duties, likes and keys. */
final class WrittenEdges {
    private static final int LOWEST = Run.LOWEST;
    private static final int HIGHEST = Run.HIGHEST;
    private static final int[] NO_SHELVES = {-1, 8, LOWEST, HIGHEST};
    private static final int ROW = 5;

    private WrittenEdges() {
    }

    static void all() {
        dutiesRefusedInOrder();
        howManyDuties();
        dutiesBecomeThoseOfTheRow();
        dutiesAreInts();
        numberOfElements();
        noSuchPlace();
        spansOfDuties();
        weightsOfDuties();
        spansThatMeet();
        waysBetweenNeighbours();
        neighboursInTime();
        leastFaultOfTheFirst();
        latestThatCameToARow();
        likesRefusedInOrder();
        asManyLikesAsOfBoth();
        likesThatMayBe();
        likesAreInts();
        likesAtFirst();
        keysAreTold();
        keysOpenAtAllHours();
        keysRefused();
    }

    // ---- promise 13

    private static void dutiesRefusedInOrder() {
        Report.sentence(13, "-1 either; -2; -3; -6 a FAULT.", Report.ORDER);
        Run x = Run.line(2, 1, 0, 0, 0).fill(0, 2, 0, 0, 1, 0).does("show", 1, 0).does("begin").does("gone", 2);
        for (int who : new int[] {-1, 2, 3, 20, LOWEST, HIGHEST}) {
            for (int s : new int[] {0, 1, 2, -1}) {
                x.refused(-1, "duties", who, s);
            }
        }
        for (int s : NO_SHELVES) {
            x.refused(-1, "duties", 0, s);
        }
        x.refused(-2, "duties", 0, 1).refused(-3, "duties", 0, 2).refused(-6, "duties", 0, 0);
        x.dueRefusals(24 + 4, 1, 1, 0, 0, 1, 0);
    }

    private static void howManyDuties() {
        Report.sentence(13, "DUTIES of one of the FOLK become those of the ROW in SHELF s: how many.");
        for (int sort = 0; sort <= 3; sort++) {
            for (int count = 0; count <= 12; count++) {
                Run x = Run.places(2, 9).folk(0, 0).does("row", 0, sort, 4 * count);
                for (int d = 0; d < count; d++) {
                    x.does("set", 0, 4 * d, 1).does("set", 0, 4 * d + 1, 4 * d);
                    x.does("set", 0, 4 * d + 2, 4 * d + 4).does("set", 0, 4 * d + 3, d + 1);
                }
                x.due(count, "duties", 1, 0).due(0, "fault", 0).due(-1, "fault", 1);
                x.does("begin");
                // place 1 can't be reached: all of them are paid for, 4 ticks of 1, 2, .. each
                x.due(192, "cost", 0).due(192 + 2 * count * (count + 1), "cost", 1);
            }
        }
    }

    private static void dutiesBecomeThoseOfTheRow() {
        Report.sentence(13, "DUTIES (12 at most; none at first)");
        Run x = Run.places(2, 9).folk(0, 0).does("begin").due(192, "cost", 0).due(192, "cost", 1);
        x.fill(0, 2, 1, 0, 48, 100).due(1, "duties", 0, 0);
        // what is put into the row later is no duty
        x.does("set", 0, 3, 1).due(192 + 4800, "again", 0).due(192, "again", 1);
        x.does("row", 0, 2, 60).due(192 + 4800, "again", 0);
        x.fill(0, 2, 1, 47, 48, 7).due(1, "duties", 0, 0).due(192 + 7, "again", 0);
        x.fill(0, 2, 1, 47, 48, 0).refused(-6, "duties", 0, 0).due(192 + 7, "again", 0);
        x.does("row", 0, 2, 0).due(0, "duties", 0, 0).due(192, "again", 0);
        Report.sentence(13, "(LIKES, KEYS and DUTIES that change count when one is planned next.)");
        x.fill(0, 2, 1, 47, 48, 5).due(1, "duties", 1, 0).due(192, "cost", 1);
        x.does("tick", 47).due(192, "cost", 1).does("tick", 1).due(192 + 5, "cost", 1).due(192, "cost", 0);
    }

    private static void dutiesAreInts() {
        Report.sentence(13, "four elements each (as ints: of longs the lowest 32 bits)");
        Run x = Run.places(2, 9).folk(0).does("begin");
        long high = 1L << 32;
        x.fill(0, 3, high + 1, -high, 7 * high + 48, Long.MIN_VALUE + 100).due(1, "duties", 0, 0);
        x.due(192 + 4800, "again", 0);
        x.fill(0, 3, high + 2, 0, 1, 1).refused(-6, "duties", 0, 0).due(2, "fault", 0);
        x.fill(0, 3, (1L << 31) + 1, 0, 1, 1).refused(-6, "duties", 0, 0).due(2, "fault", 0);
        x.fill(0, 3, 0, 0, 1L << 31, 1).refused(-6, "duties", 0, 0).due(3, "fault", 0);
        x.fill(0, 3, 0, 0, 1, high).refused(-6, "duties", 0, 0).due(4, "fault", 0);
        x.fill(0, 0, 257, 256, 256 + 48, 256 + 99).due(1, "duties", 0, 0).due(192 + 48 * 99, "again", 0);
        x.fill(0, 0, 0, 0, 48, 200).refused(-6, "duties", 0, 0).due(4, "fault", 0);
    }

    // ---- promise 14

    private static void fault(Run x, int fault, int number, long... cells) {
        x.fill(ROW, 2, cells).due(fault == 0 ? cells.length / 4 : -6, "duties", 0, ROW);
        x.due(fault, "fault", 0).due(number, "fault", 1);
    }

    private static void numberOfElements() {
        Report.sentence(14, "1 the number of elements is no multiple of 4, or more than 48 (place 0)");
        for (int n = 0; n <= 60; n++) {
            Run x = Run.places(1, 9).folk(0).does("row", ROW, n % 4, n);
            boolean faulty = n % 4 != 0 || n > 48;
            x.due(n == 0 ? 0 : -6, "duties", 0, ROW);
            // all elements are 0, so the first of a row that may be has a span that may not
            x.due(n == 0 ? 0 : faulty ? 1 : 3, "fault", 0).due(n == 0 ? -1 : 0, "fault", 1);
        }
        Run x = Run.places(1, 9).folk(0);
        fault(x, 1, 0, 9, 9, 9, 9, 9);
        fault(x, 1, 0, 0, 0, 1, 1, 0, 1, 2);
    }

    private static void noSuchPlace() {
        Report.sentence(14, "2 no such PLACE");
        Run x = Run.line(3, 1, 0);
        for (int none : new int[] {-1, 3, 12, LOWEST, HIGHEST}) {
            fault(x, 2, 0, none, 0, 1, 1);
            fault(x, 2, 0, none, 1, 0, 0);
            fault(x, 2, 1, 0, 0, 1, 1, none, 0, 1, 0);
        }
        fault(x, 0, -1, 0, 0, 1, 1, 2, 3, 4, 1);
        Run y = Run.places(12, 1).folk(0);
        fault(y, 0, -1, 11, 0, 1, 1);
        fault(y, 2, 0, 12, 0, 1, 1);
    }

    private static void spansOfDuties() {
        Report.sentence(14, "3 not 0 <= from < to <= 48");
        Run x = Run.line(2, 1, 0);
        int[][] wrong = {{-1, 0}, {-1, 1}, {0, 0}, {1, 1}, {1, 0}, {48, 47}, {48, 48}, {48, 49}, {47, 49}, {0, 49},
            {LOWEST, 1}, {0, HIGHEST}, {LOWEST, HIGHEST}, {HIGHEST, LOWEST}};
        for (int[] span : wrong) {
            fault(x, 3, 0, 0, span[0], span[1], 1);
            fault(x, 3, 0, 1, span[0], span[1], 0);
            fault(x, 3, 1, 0, 20, 21, 1, 0, span[0], span[1], 1);
        }
        for (int[] span : new int[][] {{0, 1}, {0, 48}, {47, 48}, {0, 47}, {1, 48}}) {
            fault(x, 0, -1, 0, span[0], span[1], 1);
        }
    }

    private static void weightsOfDuties() {
        Report.sentence(14, "4 WEIGHT;");
        Run x = Run.line(2, 1, 0);
        for (int weight : new int[] {0, 101, -1, LOWEST, HIGHEST}) {
            fault(x, 4, 0, 0, 0, 1, weight);
            fault(x, 4, 1, 0, 0, 5, 1, 1, 4, 6, weight);
        }
        fault(x, 0, -1, 0, 0, 1, 1);
        fault(x, 0, -1, 0, 0, 1, 100);
    }

    private static void spansThatMeet() {
        Report.sentence(14, "5 its span meets that of an earlier one of the ROW");
        for (int from = 0; from < 12; from++) {
            Run x = Run.line(2, 1, 0);
            for (int to = from + 1; to <= 12; to++) {
                boolean meets = from < 8 && to > 4;
                fault(x, meets ? 5 : 0, meets ? 1 : -1, 0, 4, 8, 1, 0, from, to, 1);
            }
        }
        Run x = Run.line(2, 1, 0);
        fault(x, 5, 2, 0, 4, 8, 1, 0, 20, 24, 1, 0, 7, 9, 1);
        fault(x, 5, 2, 0, 4, 8, 1, 0, 20, 24, 1, 0, 8, 21, 1);
        fault(x, 0, -1, 0, 4, 8, 1, 0, 20, 24, 1, 0, 8, 20, 1);
        fault(x, 5, 1, 0, 0, 48, 1, 0, 47, 48, 1);
        fault(x, 5, 1, 0, 47, 48, 1, 0, 0, 48, 1);
        fault(x, 0, -1, 0, 47, 48, 1, 0, 0, 47, 1);
    }

    private static void waysBetweenNeighbours() {
        Report.sentence(14, "are more than there are between (or there is no way)");
        for (int ticks = 1; ticks <= 9; ticks++) {
            Run x = Run.line(3, ticks, 0).does("place", 1, 0, 48);
            // ahead: its to is 10; one place on, then two
            fault(x, 0, -1, 0, 9, 10, 1, 1, 10 + ticks, 30, 1);
            fault(x, 6, 1, 0, 9, 10, 1, 1, 9 + ticks, 30, 1);
            fault(x, 0, -1, 2, 9, 10, 1, 0, 10 + 2 * ticks, 48, 1);
            fault(x, 6, 1, 2, 9, 10, 1, 0, 9 + 2 * ticks, 48, 1);
            // behind: its from is 30
            fault(x, 0, -1, 0, 30, 31, 1, 1, 0, 30 - ticks, 1);
            fault(x, 6, 1, 0, 30, 31, 1, 1, 0, 31 - ticks, 1);
            fault(x, 0, -1, 0, 30, 31, 1, 2, 0, 30 - 2 * ticks, 1);
            fault(x, 6, 1, 0, 30, 31, 1, 2, 0, 31 - 2 * ticks, 1);
            // no way to place 3, and none needed to where one is
            fault(x, 6, 1, 0, 0, 1, 1, 3, 47, 48, 1);
            fault(x, 6, 1, 0, 47, 48, 1, 3, 0, 1, 1);
            fault(x, 0, -1, 3, 0, 1, 1, 3, 1, 2, 1);
            fault(x, 0, -1, 3, 1, 2, 1, 3, 0, 1, 1);
        }
    }

    private static void neighboursInTime() {
        Report.sentence(14, "from its neighbour ahead in time among the earlier ones of the ROW (that whose to is the greatest"
            + " no more than its from), or to its neighbour behind (that whose from is the least no less than its to)");
        Run x = Run.line(3, 2, 0);
        // place 0 in 4 and 5, place 2 from 20 on, told in either order: the third must fit between them
        long[][] pairs = {{0, 4, 6, 1, 2, 20, 22, 1}, {2, 20, 22, 1, 0, 4, 6, 1}};
        for (long[] p : pairs) {
            fault(x, 0, -1, p[0], p[1], p[2], p[3], p[4], p[5], p[6], p[7], 1, 8, 18, 1);
            fault(x, 6, 2, p[0], p[1], p[2], p[3], p[4], p[5], p[6], p[7], 1, 7, 18, 1);
            fault(x, 6, 2, p[0], p[1], p[2], p[3], p[4], p[5], p[6], p[7], 1, 8, 19, 1);
            fault(x, 0, -1, p[0], p[1], p[2], p[3], p[4], p[5], p[6], p[7], 0, 6, 16, 1);
            fault(x, 6, 2, p[0], p[1], p[2], p[3], p[4], p[5], p[6], p[7], 0, 6, 17, 1);
            fault(x, 0, -1, p[0], p[1], p[2], p[3], p[4], p[5], p[6], p[7], 2, 10, 20, 1);
            fault(x, 6, 2, p[0], p[1], p[2], p[3], p[4], p[5], p[6], p[7], 2, 9, 20, 1);
            // ahead of both, and behind both
            fault(x, 0, -1, p[0], p[1], p[2], p[3], p[4], p[5], p[6], p[7], 1, 0, 2, 1);
            fault(x, 6, 2, p[0], p[1], p[2], p[3], p[4], p[5], p[6], p[7], 1, 0, 3, 1);
            fault(x, 0, -1, p[0], p[1], p[2], p[3], p[4], p[5], p[6], p[7], 0, 26, 48, 1);
            fault(x, 6, 2, p[0], p[1], p[2], p[3], p[4], p[5], p[6], p[7], 0, 25, 48, 1);
        }
        // later ones of the row are no neighbours: the one that comes too near to an earlier one has the fault
        fault(x, 6, 1, 0, 4, 6, 1, 1, 7, 8, 1, 0, 8, 9, 1);
        fault(x, 6, 1, 1, 7, 8, 1, 0, 4, 6, 1);
    }

    private static void leastFaultOfTheFirst() {
        Report.sentence(14, "Then DUTY by DUTY, the least FAULT of the first that has one, with its number in the ROW,"
            + " from 0 on");
        Run x = Run.line(3, 2, 0);
        fault(x, 2, 0, 3, 1, 0, 0);
        fault(x, 3, 0, 0, 1, 0, 0);
        fault(x, 4, 0, 0, 0, 1, 0);
        fault(x, 4, 1, 0, 4, 6, 1, 1, 5, 7, 0);
        // meets the first, and is too near to the second
        fault(x, 5, 2, 0, 4, 6, 1, 0, 10, 12, 1, 2, 5, 9, 1);
        fault(x, 6, 2, 0, 4, 6, 1, 0, 10, 12, 1, 2, 6, 9, 1);
        // the first that has one, be its fault greater
        fault(x, 6, 1, 0, 4, 6, 1, 1, 7, 8, 1, 3, 1, 0, 0);
        fault(x, 4, 0, 0, 4, 6, 0, 3, 1, 0, 0);
        fault(x, 3, 0, 0, 4, 4, 1, 3, 1, 0, 0);
        long[] twelve = new long[48];
        for (int d = 0; d < 12; d++) {
            twelve[4 * d + 1] = 4 * d;
            twelve[4 * d + 2] = 4 * d + 4;
            twelve[4 * d + 3] = 100;
        }
        fault(x, 0, -1, twelve);
        twelve[47] = 101;
        fault(x, 4, 11, twelve);
        twelve[46] = 49;
        fault(x, 3, 11, twelve);
        twelve[44] = 3;
        fault(x, 2, 11, twelve);
        twelve[7] = 0;
        fault(x, 4, 1, twelve);
    }

    private static void latestThatCameToARow() {
        Report.sentence(14, "Of the latest duties() that came to a ROW: 0 its FAULT (0: none, or ahead of any),"
            + " 1 its number in the ROW (NONE without a FAULT). NONE for another what.");
        Run x = Run.line(2, 1, 0, 0).does("show", 0, 0);
        int[] others = {-1, 2, 3, LOWEST, HIGHEST};
        for (int what : others) {
            x.due(-1, "fault", what);
        }
        x.due(0, "fault", 0).due(-1, "fault", 1);
        fault(x, 4, 1, 0, 0, 1, 1, 0, 1, 2, 0);
        // these come to no row
        x.refused(-1, "duties", 2, ROW).refused(-1, "duties", -1, ROW).refused(-1, "duties", 0, 8);
        x.refused(-2, "duties", 0, 0).refused(-3, "duties", 0, 1);
        x.due(4, "fault", 0).due(1, "fault", 1);
        x.does("begin").does("gone", 1).refused(-1, "duties", 1, ROW).due(4, "fault", 0).due(1, "fault", 1);
        // nor do other calls tell of a fault
        x.does("row", ROW, 2, 3).does("likes", 0, ROW).does("tick", 48).due(4, "fault", 0).due(1, "fault", 1);
        for (int what : others) {
            x.due(-1, "fault", what);
        }
        fault(x, 1, 0, 0, 0, 1);
        fault(x, 0, -1);
        fault(x, 2, 0, 2, 0, 0, 0);
        fault(x, 0, -1, 1, 0, 1, 1);
        x.dueRefusals(4, 1, 1, 0, 0, 3, 0);
    }

    // ---- promise 15

    private static void likesRefusedInOrder() {
        Report.sentence(15, "-1 either; -2; -3; -6 one of these not 0 to 9", Report.ORDER);
        Run x = Run.line(2, 1, 0, 0, 0).fill(0, 2, 10, 0).does("show", 1, 0).does("begin").does("gone", 2);
        for (int who : new int[] {-1, 2, 3, 20, LOWEST, HIGHEST}) {
            for (int s : new int[] {0, 1, 2, -1}) {
                x.refused(-1, "likes", who, s);
            }
        }
        for (int s : NO_SHELVES) {
            x.refused(-1, "likes", 0, s);
        }
        x.refused(-2, "likes", 0, 1).refused(-3, "likes", 0, 2).refused(-6, "likes", 0, 0);
    }

    private static void asManyLikesAsOfBoth() {
        Report.sentence(15, "element p (its lowest 32 bits) for PLACE p, as many as there are of both: how many.");
        Run x = new Run().folk();
        for (int p = 0; p < 12; p++) {
            x.does("place", 1, 0, 48).does("folk", p);
            x.does("row", 0, 0, 60).due(p + 1, "likes", 0, 0);
        }
        for (int n : new int[] {0, 1, 11, 12, 13, 60}) {
            x.does("row", 0, n % 4, n).due(Math.min(n, 12), "likes", 0, 0);
        }
        // elements behind the last place may be what they will, those that are wanted may not
        Run y = Run.places(2, 9).folk(0, 1);
        y.fill(0, 1, 9, 8, 10).due(2, "likes", 0, 0).due(2, "likes", 1, 0).does("begin");
        y.due(0, "cost", 0).due(48, "cost", 1);
        y.fill(0, 1, 7).due(1, "likes", 0, 0).due(1, "likes", 1, 0).due(96, "again", 0).due(48, "again", 1);
        y.does("row", 0, 1, 0).due(0, "likes", 1, 0).due(48, "again", 1);
    }

    private static void likesThatMayBe() {
        Report.sentence(15, "-6 one of these not 0 to 9 (none is changed then).");
        Run x = Run.places(2, 9).folk(0, 1).does("begin");
        for (int like = 0; like <= 9; like++) {
            x.fill(0, 2, like, 9 - like).due(2, "likes", 0, 0).due(2, "likes", 1, 0);
            x.due(48 * (9 - like), "again", 0).due(48 * like, "again", 1);
        }
        for (int wrong : new int[] {-1, 10, LOWEST, HIGHEST}) {
            x.fill(0, 2, 3, wrong).refused(-6, "likes", 0, 0).fill(0, 2, wrong, 3).refused(-6, "likes", 1, 0);
            x.due(0, "again", 0).due(48 * 9, "again", 1);
        }
        x.fill(0, 2, 3, 10, 10).refused(-6, "likes", 0, 0);
        Report.sentence(15, "(LIKES, KEYS and DUTIES that change count when one is planned next.)");
        x.fill(0, 2, 0, 0).due(2, "likes", 0, 0).due(0, "cost", 0).does("tick", 47).due(0, "cost", 0);
        x.does("tick", 1).due(48 * 9, "cost", 0);
    }

    private static void likesAreInts() {
        Report.sentence(15, "element p (its lowest 32 bits) for PLACE p");
        Run x = Run.places(1, 9).folk(0).does("begin");
        x.fill(0, 3, (1L << 32) + 9).due(1, "likes", 0, 0).due(0, "again", 0);
        x.fill(0, 3, Long.MIN_VALUE).due(1, "likes", 0, 0).due(48 * 9, "again", 0);
        x.fill(0, 3, -1L << 32 | 7).due(1, "likes", 0, 0).due(48 * 2, "again", 0);
        x.fill(0, 3, 1L << 31).refused(-6, "likes", 0, 0).fill(0, 3, (1L << 32) - 1).refused(-6, "likes", 0, 0);
        x.fill(0, 0, 256 + 6).due(1, "likes", 0, 0).due(48 * 3, "again", 0);
        x.fill(0, 1, 1L << 16 | 5).due(1, "likes", 0, 0).due(48 * 4, "again", 0);
    }

    private static void likesAtFirst() {
        Report.sentence(15, "LIKES of each PLACE (0 to 9; 5 at first)");
        Run x = Run.places(12, 1);
        for (int p = 0; p < 12; p++) {
            x.does("folk", p);
        }
        x.does("begin");
        for (int p = 0; p < 12; p++) {
            x.due(48 * 4, "cost", p);
        }
    }

    // ---- promise 16

    private static void keysAreTold() {
        Report.sentence(16, "One of the FOLK has a KEY of a PLACE from now on, or not: 1 if that was otherwise, else 0.");
        Run x = Run.places(12, 9).folk(0, 0);
        for (int p = 0; p < 12; p++) {
            x.due(0, "key", 0, p, false).due(1, "key", 0, p, true).due(0, "key", 0, p, true);
        }
        x.due(1, "key", 0, 5, false).due(0, "key", 0, 5, false).due(0, "key", 0, 4, true).due(0, "key", 0, 6, true);
        for (int p = 0; p < 12; p++) {
            x.due(0, "key", 1, p, false);
        }
        x.does("begin").due(1, "key", 0, 0, false).due(1, "key", 0, 0, true).does("tick", 48).due(0, "key", 0, 0, true);
    }

    private static void keysOpenAtAllHours() {
        Report.sentence(16, "KEYS (PLACES that are OPEN to them at all hours)");
        Run x = new Run().does("place", 1, 47, 48).does("place", 1, 0, 1).folk(0, 1, 0);
        x.due(1, "key", 0, 0, true).due(1, "key", 1, 0, true).does("begin");
        // a key of another place opens nothing, and one who has none has to wait
        x.where(0, 0, 48, 0).due(192, "cost", 0).where(1, 0, 1, 1).where(1, 1, 48, 101).due(47 * 20 + 4, "cost", 1);
        x.where(2, 0, 48, 100).due(48 * 20, "cost", 2);
        // a key is no seat
        x.due(1, "key", 2, 0, true).due(48 * 20, "again", 2).does("gone", 0).due(192, "again", 2);
        Report.sentence(16, "(LIKES, KEYS and DUTIES that change count when one is planned next.)");
        x.due(1, "key", 2, 0, false).where(2, 0, 48, 0).due(192, "cost", 2).does("tick", 10).where(2, 10, 48, 0);
        x.due(37 * 20 + 4, "again", 2).where(2, 0, 10, 0).where(2, 10, 47, 100).due(0, "where", 2, 47);
        x.due(1, "key", 2, 0, true).does("tick", 38).where(2, 0, 48, 0);
    }

    private static void keysRefused() {
        Report.sentence(16, "-1.");
        Run x = Run.places(2, 9).folk(0, 0);
        for (int none : new int[] {-1, 2, 12, 20, 32, LOWEST, HIGHEST}) {
            x.refused(-1, "key", none, 0, true).refused(-1, "key", 0, none, true).refused(-1, "key", none, none, false);
        }
        x.does("begin").does("gone", 1).refused(-1, "key", 1, 0, true).refused(-1, "key", 1, 0, false);
        x.due(1, "key", 0, 1, true);
    }
}
