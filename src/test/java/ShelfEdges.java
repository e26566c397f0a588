/** Promises 6 to 12: shelves and what they hold. */
final class ShelfEdges {
    private static final int LOWEST = Run.LOWEST;
    private static final int HIGHEST = Run.HIGHEST;
    private static final int[] NO_SHELVES = {-1, 8, LOWEST, HIGHEST};

    private ShelfEdges() {
    }

    static void all() {
        rowsThatMayBe();
        rowsRefusedInOrder();
        aRowIsNew();
        elementsThatAreThere();
        lowestBits();
        setRefusedInOrder();
        endsOfCopies();
        copiesAsTheyWere();
        copiesOfSorts();
        copyRefusedInOrder();
        elementIsNeverRefused();
        shownFolk();
        shownNothing();
        showRefused();
        whatShelvesHold();
        homesOfShelves();
    }

    private static void rowsThatMayBe() {
        Report.sentence(6, "SHELF s holds a new ROW: 1. -1; -4; -6 SORT; -7 n above 60.");
        Run x = new Run();
        for (int s = 0; s < 8; s++) {
            x.due(-1, "holds", s).due(1, "row", s, 0, 0).due(100, "holds", s);
        }
        for (int s : NO_SHELVES) {
            x.refused(-1, "row", s, 0, 0);
        }
        for (int n : new int[] {-1, LOWEST}) {
            x.refused(-4, "row", 0, 0, n);
        }
        for (int sort : new int[] {-1, 4, LOWEST, HIGHEST}) {
            x.refused(-6, "row", 0, sort, 0).refused(-6, "row", 0, sort, 60);
        }
        for (int n : new int[] {61, 100, HIGHEST}) {
            x.refused(-7, "row", 0, 0, n).refused(-7, "row", 0, 3, n);
        }
        for (int sort = 0; sort <= 3; sort++) {
            x.due(1, "row", 0, sort, 0).refused(-5, "set", 0, 0, 1);
            x.due(1, "row", 0, sort, 1).due(1, "set", 0, 0, 1).refused(-5, "set", 0, 1, 1);
            x.due(1, "row", 0, sort, 60).due(1, "set", 0, 59, 1).refused(-5, "set", 0, 60, 1);
            x.due(100 + sort, "holds", 0).due(1, "element", 0, 59).due(0, "element", 0, 58);
        }
    }

    private static void rowsRefusedInOrder() {
        Report.sentence(6, "-1; -4; -6 SORT; -7 n above 60.", Report.ORDER);
        Run x = new Run();
        x.refused(-1, "row", 8, 4, -1).refused(-1, "row", -1, 0, 61).refused(-1, "row", 8, 9, 5);
        x.refused(-4, "row", 0, 4, -1).refused(-4, "row", 0, -1, LOWEST);
        x.refused(-6, "row", 0, 4, 61).refused(-6, "row", 0, -1, HIGHEST);
        x.refused(-7, "row", 0, 3, 61).due(-1, "holds", 0).dueRefusals(3, 0, 0, 2, 0, 2, 1);
    }

    private static void aRowIsNew() {
        Report.sentence(6, "0 to 60 elements, 0 at first");
        Run x = new Run().does("place", 1, 0, 48).folk(0);
        x.does("row", 2, 3, 60);
        for (int i = 0; i < 60; i++) {
            x.due(0, "element", 2, i).does("set", 2, i, i + 1).due(i + 1, "element", 2, i);
        }
        x.due(1, "row", 2, 3, 60);
        for (int i = 0; i < 60; i++) {
            x.due(0, "element", 2, i);
        }
        x.does("set", 2, 1, 5).refused(-7, "row", 2, 3, 61).refused(-6, "row", 2, 4, 2).refused(-4, "row", 2, 3, -1);
        x.due(5, "element", 2, 1).due(1, "row", 2, 0, 1).due(1, "row", 2, 0, 2).due(0, "element", 2, 1);
        x.does("show", 2, 0).due(1, "row", 2, 1, 3).due(101, "holds", 2).due(0, "element", 2, 2);
        x.refused(-2, "homeIn", 2);
    }

    private static void elementsThatAreThere() {
        Report.sentence(7, "Element i of the ROW becomes v: 1. -1; -2; -3; -5.");
        Run x = new Run();
        for (int n : new int[] {0, 1, 2, 59, 60}) {
            x.does("row", 7, 3, n);
            for (int i : new int[] {-1, n, n + 1, 60, LOWEST, HIGHEST}) {
                x.refused(-5, "set", 7, i, 9);
            }
            if (n > 0) {
                x.due(1, "set", 7, 0, 3).due(1, "set", 7, n - 1, 4).due(4, "element", 7, n - 1);
                x.due(n > 1 ? 3 : 4, "element", 7, 0);
            }
        }
    }

    private static void lowestBits() {
        Report.sentence(7, "what is put in keeps its lowest bits");
        long[][] kept = {
            {0, 127, 127}, {0, 128, -128}, {0, 129, -127}, {0, 255, -1}, {0, 256, 0}, {0, 257, 1}, {0, -128, -128},
            {0, -129, 127}, {0, -1, -1}, {0, Long.MAX_VALUE, -1}, {0, Long.MIN_VALUE, 0}, {0, 1L << 32 | 5, 5},
            {1, 32767, 32767}, {1, 32768, -32768}, {1, 65535, -1}, {1, 65536, 0}, {1, -32768, -32768},
            {1, -32769, 32767}, {1, Long.MAX_VALUE, -1}, {1, 1L << 40 | 7, 7}, {1, 128, 128},
            {2, HIGHEST, HIGHEST}, {2, 1L << 31, LOWEST}, {2, (1L << 32) - 1, -1}, {2, 1L << 32, 0}, {2, LOWEST, LOWEST},
            {2, LOWEST - 1L, HIGHEST}, {2, Long.MAX_VALUE, -1}, {2, 32768, 32768},
            {3, Long.MAX_VALUE, Long.MAX_VALUE}, {3, Long.MIN_VALUE, Long.MIN_VALUE}, {3, 1L << 32, 1L << 32}, {3, -1, -1}};
        Run x = new Run();
        for (long[] k : kept) {
            x.does("row", 0, (int) k[0], 3).due(1, "set", 0, 1, k[1]);
            x.due(0, "element", 0, 0).due(k[2], "element", 0, 1).due(0, "element", 0, 2);
        }
    }

    private static void setRefusedInOrder() {
        Report.sentence(7, "-1; -2; -3; -5.", Report.ORDER);
        Run x = new Run().does("place", 1, 0, 48).folk(0).does("show", 0, 0).does("row", 2, 0, 2);
        for (int s : NO_SHELVES) {
            x.refused(-1, "set", s, 0, 1).refused(-1, "set", s, -1, 1);
        }
        x.refused(-2, "set", 0, 0, 1).refused(-2, "set", 0, -1, 1).refused(-2, "set", 0, 60, 1);
        x.refused(-3, "set", 1, 0, 1).refused(-3, "set", 1, -1, 1).refused(-3, "set", 1, 60, 1);
        x.refused(-5, "set", 2, 2, 1).dueRefusals(8, 3, 3, 0, 1, 0, 0);
    }

    private static void endsOfCopies() {
        Report.sentence(8, "-4 n; -5 i or j below 0, or an end that isn't there.");
        Run x = new Run().fill(0, 1, 1, 2, 3, 4, 5).fill(1, 1, 10, 20, 30);
        for (int n : new int[] {-1, LOWEST}) {
            x.refused(-4, "copy", 0, 1, 0, 0, n);
        }
        int[][] beyond = {{-1, 0, 1}, {0, -1, 1}, {-1, 0, 0}, {0, -1, 0}, {-1, -1, 2}, {LOWEST, 0, 1}, {0, LOWEST, 1},
            {5, 0, 1}, {4, 0, 2}, {3, 0, 3}, {0, 3, 1}, {0, 2, 2}, {0, 1, 3}, {0, 0, 4}, {0, 0, 6}, {6, 0, 0}, {0, 4, 0},
            {HIGHEST, 0, 1}, {0, HIGHEST, 1}, {1, 0, HIGHEST}, {0, 1, HIGHEST}, {HIGHEST, HIGHEST, HIGHEST},
            {LOWEST, LOWEST, HIGHEST}, {HIGHEST, 0, 0}, {0, HIGHEST, 0}};
        for (int[] b : beyond) {
            x.refused(-5, "copy", 0, 1, b[0], b[1], b[2]);
        }
        // the last that is there
        x.due(1, "copy", 0, 1, 5, 3, 0).due(1, "copy", 0, 1, 0, 0, 0);
        cells(x, 1, 10, 20, 30);
        x.due(1, "copy", 0, 1, 4, 2, 1);
        cells(x, 1, 10, 20, 5);
        x.due(1, "copy", 0, 1, 2, 0, 3);
        cells(x, 1, 3, 4, 5);
        x.due(1, "copy", 1, 0, 0, 2, 3).due(1, "copy", 1, 0, 2, 0, 1);
        cells(x, 0, 5, 2, 3, 4, 5);
        Run y = new Run().does("row", 0, 3, 0).does("row", 1, 3, 60).does("row", 2, 3, 60).does("set", 1, 59, 8);
        y.due(1, "copy", 0, 0, 0, 0, 0).due(1, "copy", 0, 1, 0, 60, 0);
        y.refused(-5, "copy", 0, 1, 0, 0, 1).refused(-5, "copy", 1, 0, 0, 0, 1).refused(-5, "copy", 0, 1, 0, 61, 0);
        y.due(1, "copy", 1, 2, 0, 0, 60).due(8, "element", 2, 59).due(0, "element", 2, 58);
        y.refused(-5, "copy", 1, 2, 0, 0, 61).refused(-5, "copy", 1, 2, 1, 0, 60).refused(-5, "copy", 1, 2, 0, 1, 60);
    }

    private static void cells(Run x, int s, long... want) {
        for (int i = 0; i < want.length; i++) {
            x.due(want[i], "element", s, i);
        }
        x.due(0, "element", s, want.length);
    }

    private static void copiesAsTheyWere() {
        Report.sentence(8, "come to elements j, j + 1, .. of that in q (as they were ahead)");
        Run x = new Run().fill(0, 2, 1, 2, 3, 4, 5, 6);
        x.due(1, "copy", 0, 0, 0, 1, 5);
        cells(x, 0, 1, 1, 2, 3, 4, 5);
        x.fill(0, 2, 1, 2, 3, 4, 5, 6).due(1, "copy", 0, 0, 1, 0, 5);
        cells(x, 0, 2, 3, 4, 5, 6, 6);
        x.fill(0, 2, 1, 2, 3, 4, 5, 6).due(1, "copy", 0, 0, 0, 2, 4);
        cells(x, 0, 1, 2, 1, 2, 3, 4);
        x.due(1, "copy", 0, 0, 0, 0, 6).due(1, "copy", 0, 0, 3, 3, 3);
        cells(x, 0, 1, 2, 1, 2, 3, 4);
        // a copy is not bound to what it was made of
        x.fill(1, 2, 9, 9).due(1, "copy", 0, 1, 0, 0, 2).does("set", 0, 0, 7);
        cells(x, 1, 1, 2);
    }

    private static void copiesOfSorts() {
        Report.sentence(8, "-2 also of two SORTS (when both hold something)");
        Run x = new Run();
        for (int sort = 0; sort <= 3; sort++) {
            x.does("row", sort, sort, 2).does("set", sort, 0, sort + 1);
        }
        for (int p = 0; p <= 3; p++) {
            for (int q = 0; q <= 3; q++) {
                if (p != q) {
                    x.refused(-2, "copy", p, q, 0, 0, 1).refused(-2, "copy", p, q, 0, 0, 0);
                }
            }
            x.due(1, "copy", p, p, 0, 1, 1).due(p + 1, "element", p, 1);
            x.refused(-3, "copy", p, 5, 0, 0, 1).refused(-3, "copy", 5, p, 0, 0, 1);
        }
    }

    private static void copyRefusedInOrder() {
        Report.sentence(8, "-1; -2 also of two SORTS (when both hold something); -3 either; -4 n; -5",
            Report.ORDER);
        Run x = new Run().does("place", 1, 0, 48).folk(0);
        // 0 and 1 hold rows of one sort, 2 one of another, 3 one of the folk, 4 nothing
        x.does("row", 0, 1, 2).does("row", 1, 1, 2).does("row", 2, 2, 2).does("show", 3, 0);
        for (int none : NO_SHELVES) {
            for (int s : new int[] {0, 3, 4, none}) {
                x.refused(-1, "copy", none, s, -1, 9, -1).refused(-1, "copy", s, none, -1, 9, -1);
            }
        }
        for (int s : new int[] {0, 3, 4}) {
            x.refused(-2, "copy", 3, s, 0, 0, 1).refused(-2, "copy", s, 3, 0, 0, 1);
            x.refused(-2, "copy", 3, s, -1, 9, -1).refused(-2, "copy", s, 3, -1, 9, -1);
        }
        x.refused(-2, "copy", 0, 2, -1, 9, -1);
        for (int s : new int[] {0, 4}) {
            x.refused(-3, "copy", 4, s, -1, 9, -1).refused(-3, "copy", s, 4, -1, 9, -1);
        }
        x.refused(-4, "copy", 0, 1, -1, 9, -1).refused(-4, "copy", 0, 0, 0, 0, -1);
        x.refused(-5, "copy", 0, 1, -1, 0, 0);
    }

    private static void elementIsNeverRefused() {
        Report.sentence(9, "Element i of the ROW; 0 if there is none (nothing is refused).");
        Run x = new Run().does("place", 1, 0, 48).folk(0).fill(0, 3, 5, 6).does("show", 1, 0).does("row", 2, 3, 0);
        x.due(5, "element", 0, 0).due(6, "element", 0, 1);
        for (int i : new int[] {-1, 2, 3, 60, LOWEST, HIGHEST}) {
            x.due(0, "element", 0, i);
        }
        for (int s : new int[] {1, 2, 3, -1, 8, LOWEST, HIGHEST}) {
            x.due(0, "element", s, 0).due(0, "element", s, -1).due(0, "element", s, 60);
        }
        x.dueRefusals(0, 0, 0, 0, 0, 0, 0);
        x.does("show", 0, -1).due(0, "element", 0, 0);
        x.fill(0, 3, 5, 6).does("show", 0, 0).due(0, "element", 0, 0).due(0, "element", 0, 1);
        x.fill(0, 3, 5, 6).does("row", 0, 3, 1).does("row", 0, 3, 2).due(0, "element", 0, 0).due(0, "element", 0, 1);
    }

    private static void shownFolk() {
        Report.sentence(10, "SHELF s holds one of the FOLK (GONE ones, too): 1");
        Run x = Run.places(2, 9);
        for (int f = 0; f < 20; f++) {
            x.does("folk", f % 2);
        }
        for (int s = 0; s < 8; s++) {
            int who = s == 7 ? 19 : s;
            x.due(1, "show", s, who).due(who, "holds", s).due(who % 2, "homeIn", s);
        }
        // one may be held by several
        x.due(1, "show", 0, 7).due(1, "show", 1, 7).due(7, "holds", 0).due(7, "holds", 1);
        x.does("begin").does("gone", 7).does("gone", 8);
        x.due(7, "holds", 0).due(1, "homeIn", 0).due(1, "show", 2, 8).due(8, "holds", 2).due(0, "homeIn", 2);
        x.does("tick", 48).due(1, "show", 3, 7).due(7, "holds", 3).due(1, "homeIn", 3);
    }

    private static void shownNothing() {
        Report.sentence(10, "NOTHING (who NONE): 0");
        Run x = new Run().does("place", 1, 0, 48).folk(0);
        x.due(0, "show", 0, -1).due(-1, "holds", 0).due(0, "show", 7, TownFolk.NONE);
        x.does("show", 0, 0).due(0, "show", 0, -1).due(-1, "holds", 0).refused(-3, "homeIn", 0);
        x.fill(0, 0, 4).due(0, "show", 0, -1).due(-1, "holds", 0).due(0, "element", 0, 0).refused(-3, "set", 0, 0, 1);
    }

    private static void showRefused() {
        Report.sentence(10, "-1 either.");
        Run x = new Run().does("place", 1, 0, 48).folk(0, 0).fill(0, 0, 4).does("show", 1, 1);
        for (int s : NO_SHELVES) {
            x.refused(-1, "show", s, 0).refused(-1, "show", s, -1).refused(-1, "show", s, 2);
        }
        for (int who : new int[] {2, 20, -2, LOWEST, HIGHEST}) {
            x.refused(-1, "show", 0, who).refused(-1, "show", 1, who).refused(-1, "show", 2, who);
        }
        x.due(100, "holds", 0).due(4, "element", 0, 0).due(1, "holds", 1).due(-1, "holds", 2);
        x.due(1, "show", 2, 1);
    }

    private static void whatShelvesHold() {
        Report.sentence(11, "What SHELF s holds: NONE NOTHING, or no such SHELF; the number of one of the FOLK;"
            + " 100 and the SORT of a ROW.");
        Run x = new Run().does("place", 1, 0, 48).folk(0, 0);
        for (int s : NO_SHELVES) {
            x.due(-1, "holds", s);
        }
        for (int s = 0; s < 8; s++) {
            x.due(-1, "holds", s);
            for (int sort = 0; sort <= 3; sort++) {
                x.does("row", s, sort, 60 * (sort % 2)).due(100 + sort, "holds", s);
            }
            x.does("show", s, 0).due(0, "holds", s).does("show", s, 1).due(1, "holds", s);
            x.does("show", s, -1).due(-1, "holds", s);
        }
        x.dueRefusals(0, 0, 0, 0, 0, 0, 0);
    }

    private static void homesOfShelves() {
        Report.sentence(12, "The HOME of the one of the FOLK in SHELF s. -1; -2; -3.");
        Run x = Run.places(12, 1).folk(11, 0).does("show", 0, 0).does("show", 7, 1).does("row", 1, 0, 0);
        x.due(11, "homeIn", 0).due(0, "homeIn", 7);
        for (int s : NO_SHELVES) {
            x.refused(-1, "homeIn", s);
        }
        x.refused(-2, "homeIn", 1).refused(-3, "homeIn", 2);
        x.does("row", 0, 3, 60).refused(-2, "homeIn", 0).does("show", 7, -1).refused(-3, "homeIn", 7);
        x.dueRefusals(4, 2, 2, 0, 0, 0, 0);
    }
}
