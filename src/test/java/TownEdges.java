/** Promises 1 to 5, and part 1 of the terms: what is told of the town ahead of BEGIN. */
final class TownEdges {
    private static final int LOWEST = Run.LOWEST;
    private static final int HIGHEST = Run.HIGHEST;
    private static final int ALL_OUT = 48 * 20;
    private static final int ALL_IN = 48 * 4;

    private TownEdges() {
    }

    static void all() {
        nothingIsThere();
        beginWasNot();
        seatsAndHoursThatMayBe();
        twelvePlaces();
        seatsAreTaken();
        hoursAreKept();
        waysThatMayBe();
        thirtyWays();
        severalBetweenTwo();
        waysAreGoneInTheirTicks();
        homes();
        twentyFolk();
        setsOfMeetings();
        spansAndWeightsOfMeetings();
        tenMeetings();
        meetingsAreClaims();
        nothingIsToldBehindBegin();
        allThatMayBeThere();
    }

    private static void nothingIsThere() {
        Report.sentence(1, "Nothing is there; BEGIN was not.");
        Run x = new Run();
        x.status(0, 0, 0, 0, 0, 0, 0, 0, 0, 0, 0, 0, 0, 0, 0, 0, 0, 0, -1);
        for (int s = 0; s < 8; s++) {
            x.due(-1, "holds", s).due(0, "element", s, 0);
        }
        x.due(0, "fault", 0).due(-1, "fault", 1);
        x.due(-1, "far", 0, 0).due(-1, "where", 0, 0).due(-1, "cost", 0).due(-1, "seated", 0, 0);
        x.due(-1, "knows", 0, 0).due(-1, "met", 0, 0).due(-1, "met", 0, 1).due(-1, "met", 0, 2);
        x.refused(-1, "way", 0, 1, 1).refused(-1, "folk", 0).refused(-1, "meeting", 3, 0, 0, 1, 1);
        x.refused(-1, "key", 0, 0, true).refused(-1, "bend", 0, 0, 0, 1).refused(-1, "lock", 0, true);
        x.refused(-1, "again", 0).refused(-1, "gone", 0).refused(-1, "happen", 0).refused(-1, "show", 0, 0);
        x.refused(-1, "duties", 0, 0).refused(-1, "likes", 0, 0);
        x.refused(-3, "set", 0, 0, 1).refused(-3, "homeIn", 0).refused(-3, "copy", 0, 1, 0, 0, 0);
        // the first of each sort has number 0
        x.due(0, "place", 1, 0, 48).due(0, "folk", 0).does("folk", 0).due(0, "meeting", 3, 0, 0, 1, 1);
        x.does("begin").due(0, "happen", 0);
        Run other = new Run();
        other.status(0, 0, 0, 0, 0, 0, 0, 0, 0, 0, 0, 0, 0, 0, 0, 0, 0, 0, -1);
    }

    private static void beginWasNot() {
        Report.sentence(1, "Nothing is there; BEGIN was not.");
        Run x = new Run();
        x.refused(-6, "tick", 1).refused(-6, "tick", 48);
        x.due(0, "begin");
        x.refused(-6, "begin");
        x.due(47, "tick", 47).due(0, "status", 6).due(0, "tick", 1).due(1, "status", 6);
        x.due(0, "tick", 48).due(2, "status", 6).due(0, "status", 10);
    }

    private static void seatsAndHoursThatMayBe() {
        Report.sentence(2, "A new PLACE: its number. -6 SEATS, hours, behind BEGIN; -7.");
        Run x = new Run();
        for (int seats : new int[] {0, 10, -1, 11, LOWEST, HIGHEST}) {
            x.refused(-6, "place", seats, 0, 48);
        }
        x.due(0, "place", 1, 0, 48).due(1, "place", 9, 0, 48);
        Report.sentence(2, "hours: OPEN from TICK a to TICK b less one (0 <= a < b <= 48)");
        int[][] wrong = {{-1, 1}, {-1, 48}, {0, 0}, {1, 1}, {47, 47}, {48, 48}, {1, 0}, {48, 47}, {48, 0},
            {0, 49}, {47, 49}, {48, 49}, {-1, 0}, {LOWEST, 48}, {0, HIGHEST}, {LOWEST, HIGHEST}, {HIGHEST, LOWEST}};
        for (int[] hours : wrong) {
            x.refused(-6, "place", 1, hours[0], hours[1]);
        }
        x.due(2, "place", 1, 0, 1).due(3, "place", 1, 47, 48).due(4, "place", 1, 46, 47).due(5, "place", 1, 1, 48);
        x.status(6, 0, 0, 0, 0, 0);
    }

    private static void twelvePlaces() {
        Report.sentence(2, "PLACES have numbers, from 0 on; 12 at most");
        Run x = new Run();
        for (int p = 0; p < 12; p++) {
            x.due(p, "place", 1, 0, 48).due(p + 1, "status", 0).due(-1, "far", p, p + 1);
        }
        x.refused(-7, "place", 1, 0, 48).refused(-7, "place", 9, 47, 48);
        Report.sentence(2, "-6 SEATS, hours, behind BEGIN; -7.", Report.ORDER);
        x.refused(-6, "place", 0, 0, 48).refused(-6, "place", 10, 0, 48).refused(-6, "place", 1, 0, 49);
        x.does("begin");
        x.refused(-6, "place", 1, 0, 48);
        x.due(12, "status", 0).dueRefusals(0, 0, 0, 0, 0, 4, 2);
    }

    private static void seatsAreTaken() {
        Report.sentence(2, "SEATS 1 to 9");
        for (int seats = 1; seats <= 9; seats++) {
            Run x = new Run().does("place", seats, 0, 48);
            for (int f = 0; f <= seats; f++) {
                x.does("folk", 0);
            }
            x.due(seats + 1, "begin");
            for (int f = 0; f < seats; f++) {
                x.due(0, "where", f, 0).due(0, "where", f, 47).due(ALL_IN, "cost", f);
            }
            x.where(seats, 0, 48, 100).due(ALL_OUT, "cost", seats).seated(0, 0, 48, seats);
        }
    }

    private static void hoursAreKept() {
        Report.sentence(2, "OPEN from TICK a to TICK b less one");
        int[][] hours = {{0, 1}, {0, 47}, {0, 48}, {1, 2}, {1, 48}, {10, 20}, {46, 47}, {47, 48}};
        for (int[] h : hours) {
            Run x = new Run().does("place", 1, h[0], h[1]).folk(0);
            x.does("begin");
            x.where(0, 0, h[0], 100).where(0, h[0], h[1], 0).where(0, h[1], 48, 100);
            x.due(ALL_OUT - 16 * (h[1] - h[0]), "cost", 0);
            x.seated(0, 0, h[0], 0).seated(0, h[0], h[1], 1).seated(0, h[1], 48, 0);
        }
    }

    private static void waysThatMayBe() {
        Report.sentence(3, "A WAY: 1. -1; -6 a is b, TICKS, behind BEGIN; -7.");
        Run x = Run.places(3, 2);
        for (int none : new int[] {-1, 3, 12, LOWEST, HIGHEST}) {
            x.refused(-1, "way", none, 0, 1).refused(-1, "way", 0, none, 1);
            // a is b, and wrong TICKS, too
            x.refused(-1, "way", none, none, 0);
        }
        for (int p = 0; p < 3; p++) {
            x.refused(-6, "way", p, p, 1);
        }
        for (int ticks : new int[] {0, 10, -1, LOWEST, HIGHEST}) {
            x.refused(-6, "way", 0, 1, ticks);
        }
        x.due(-1, "far", 0, 1).due(0, "status", 1);
        x.due(1, "way", 0, 1, 1).due(1, "way", 2, 1, 9).due(2, "status", 1);
        x.due(1, "far", 0, 1).due(1, "far", 1, 0).due(9, "far", 1, 2).due(9, "far", 2, 1).due(10, "far", 0, 2);
    }

    private static void thirtyWays() {
        Report.sentence(3, "TICKS 1 to 9 each, 30 at most");
        Run x = Run.places(12, 1);
        for (int w = 0; w < 29; w++) {
            x.does("way", w % 11, w % 11 + 1, 9);
        }
        x.due(29, "status", 1).due(99, "far", 0, 11);
        x.due(1, "way", 0, 11, 8).due(30, "status", 1).due(8, "far", 0, 11).due(8 + 9, "far", 0, 10);
        x.refused(-7, "way", 0, 11, 1).refused(-7, "way", 3, 9, 1);
        Report.sentence(3, "-1; -6 a is b, TICKS, behind BEGIN; -7.", Report.ORDER);
        x.refused(-6, "way", 4, 4, 1).refused(-6, "way", 0, 11, 0).refused(-6, "way", 0, 11, 10);
        x.refused(-1, "way", 12, 12, 0).refused(-1, "way", 0, 12, 1);
        x.does("begin");
        x.refused(-6, "way", 0, 1, 1).refused(-1, "way", 0, 12, 1);
    }

    private static void severalBetweenTwo() {
        Report.sentence(3, "several between two may be: the shortest counts, of two alike there is no difference");
        int[][] orders = {{3, 5, 4}, {5, 3, 4}, {5, 4, 3}, {3, 3, 3}, {4, 3, 3}, {9, 3, 9}};
        for (int[] order : orders) {
            Run x = Run.places(2, 2);
            int shortest = 10;
            for (int w = 0; w < 3; w++) {
                x.due(1, "way", w % 2, 1 - w % 2, order[w]);
                shortest = Math.min(shortest, order[w]);
                x.due(shortest, "far", 0, 1).due(shortest, "far", 1, 0).due(w + 1, "status", 1);
            }
            x.folk(0).tells(0, 1, 20, 21, 100).restful().does("begin");
            x.where(0, 0, 17, 0).where(0, 17, 20, 201).where(0, 20, 44, 1).where(0, 44, 47, 212).where(0, 47, 48, 0);
            x.due(48 * 3, "cost", 0);
        }
    }

    private static void waysAreGoneInTheirTicks() {
        Report.sentence(3, "WAYS join two unlike PLACES, TICKS 1 to 9 each");
        for (int ticks = 1; ticks <= 9; ticks++) {
            Run x = Run.line(2, ticks, 0, 0).tells(0, 1, ticks, ticks + 1, 50).tells(1, 1, ticks - 1, ticks, 50);
            x.restful().does("begin");
            // who would have to be there one tick sooner than the way allows stays, and pays
            x.where(0, 0, ticks, 201).where(0, ticks, 47 - ticks, 1).where(0, 47 - ticks, 47, 212).where(0, 47, 48, 0);
            x.due(144, "cost", 0).where(1, 0, 48, 0).due(144 + 50, "cost", 1);
        }
    }

    private static void homes() {
        Report.sentence(4, "A new one of the FOLK: its number. -1 HOME; -6 behind BEGIN; -7.");
        Run x = Run.places(2, 9);
        for (int none : new int[] {-1, 2, 12, LOWEST, HIGHEST}) {
            x.refused(-1, "folk", none);
        }
        x.due(0, "folk", 0).due(1, "folk", 1).due(2, "folk", 1).due(3, "status", 2).due(3, "status", 3);
        x.does("begin");
        x.where(0, 0, 48, 0).where(1, 0, 48, 1).where(2, 0, 48, 1).due(-1, "where", 3, 0);
        x.refused(-1, "folk", 2).refused(-6, "folk", 0);
    }

    private static void twentyFolk() {
        Report.sentence(4, "FOLK have numbers, from 0 on; 20 at most");
        Run x = Run.places(3, 9);
        for (int f = 0; f < 20; f++) {
            x.due(f, "folk", f % 3).due(f + 1, "status", 2);
        }
        x.refused(-7, "folk", 0).refused(-7, "folk", 2);
        Report.sentence(4, "-1 HOME; -6 behind BEGIN; -7.", Report.ORDER);
        x.refused(-1, "folk", 3).refused(-1, "folk", -1);
        x.due(20, "begin").due(1, "where", 19, 47).due(-1, "where", 20, 47).due(-1, "cost", 20);
        x.refused(-6, "folk", 0).refused(-1, "folk", 3);
    }

    private static void setsOfMeetings() {
        Report.sentence(5, "-1 a bit of none, PLACE; -6 not two or more");
        Run x = Run.line(2, 1, 0, 0, 0);
        for (int who : new int[] {8, 9, 11, 15, 1 << 20 | 3, 1 << 31 | 3, LOWEST, HIGHEST, -1, 1 << 30}) {
            x.refused(-1, "meeting", who, 0, 0, 1, 1);
        }
        for (int none : new int[] {-1, 2, LOWEST, HIGHEST}) {
            x.refused(-1, "meeting", 3, none, 0, 1, 1).refused(-1, "meeting", 0, none, 1, 0, 0);
        }
        for (int who : new int[] {0, 1, 2, 4}) {
            x.refused(-6, "meeting", who, 0, 0, 1, 1);
        }
        x.due(0, "meeting", 3, 0, 0, 1, 1).due(1, "meeting", 6, 1, 0, 1, 1).due(2, "meeting", 7, 0, 0, 1, 1);
        Run y = Run.places(1, 9);
        y.refused(-1, "meeting", 1, 0, 0, 1, 1).refused(-6, "meeting", 0, 0, 0, 1, 1);
        y.folk(0).refused(-1, "meeting", 3, 0, 0, 1, 1).refused(-6, "meeting", 1, 0, 0, 1, 1);
        for (int f = 1; f < 19; f++) {
            y.does("folk", 0);
        }
        y.refused(-1, "meeting", (1 << 20) - 1, 0, 0, 1, 1).does("folk", 0);
        y.due(0, "meeting", (1 << 20) - 1, 0, 0, 1, 1).due(1, "meeting", 1 << 19 | 1, 0, 0, 1, 1);
        y.refused(-1, "meeting", (1 << 21) - 1, 0, 0, 1, 1).refused(-6, "meeting", 1 << 19, 0, 0, 1, 1);
    }

    private static void spansAndWeightsOfMeetings() {
        Report.sentence(5, "-6 not two or more, span, WEIGHT not 1 to 100, behind BEGIN");
        Run x = Run.line(2, 1, 0, 0);
        int[][] wrong = {{-1, 1}, {-1, 48}, {0, 0}, {5, 5}, {48, 48}, {6, 5}, {48, 0}, {0, 49}, {47, 49}, {48, 49},
            {LOWEST, 1}, {0, HIGHEST}, {LOWEST, HIGHEST}};
        for (int[] span : wrong) {
            x.refused(-6, "meeting", 3, 1, span[0], span[1], 1);
        }
        for (int weight : new int[] {0, 101, -1, LOWEST, HIGHEST}) {
            x.refused(-6, "meeting", 3, 1, 0, 1, weight);
        }
        x.due(0, "meeting", 3, 1, 0, 1, 1).due(1, "meeting", 3, 1, 47, 48, 100).due(2, "meeting", 3, 1, 0, 48, 99);
        x.due(3, "status", 4);
    }

    private static void tenMeetings() {
        Report.sentence(5, "MEETINGS, 10 at most");
        Run x = Run.line(2, 1, 0, 0, 0);
        for (int m = 0; m < 10; m++) {
            x.due(m, "meeting", 3, 1, m, m + 1, 1).due(m + 1, "status", 4).due(0, "met", m, 0).due(-1, "met", m + 1, 0);
        }
        x.refused(-7, "meeting", 3, 1, 0, 1, 1).refused(-7, "meeting", 7, 0, 0, 48, 100);
        Report.sentence(5, "-1 a bit of none, PLACE; -6 not two or more, span, WEIGHT not 1 to 100, behind BEGIN; -7.",
            Report.ORDER);
        x.refused(-6, "meeting", 1, 1, 0, 1, 1).refused(-6, "meeting", 3, 1, 0, 0, 1).refused(-6, "meeting", 3, 1, 0, 1, 0);
        x.refused(-1, "meeting", 8, 1, 0, 0, 0).refused(-1, "meeting", 3, 2, 0, 0, 0);
        x.does("begin");
        x.refused(-6, "meeting", 3, 1, 0, 1, 1).refused(-1, "meeting", 11, 1, 0, 1, 1).refused(-1, "meeting", 3, 2, 0, 1, 1);
    }

    private static void meetingsAreClaims() {
        Report.sentence(5, "A new MEETING of the FOLK whose bits are set");
        // place 1 can't be reached: each tick of the span costs its weight to those who are of it
        int[][] spans = {{0, 1}, {47, 48}, {0, 48}, {10, 12}};
        for (int[] span : spans) {
            for (int weight : new int[] {1, 100}) {
                Run x = Run.places(2, 9).folk(0, 0, 0).does("meeting", 5, 1, span[0], span[1], weight);
                x.does("begin");
                int paid = ALL_IN + weight * (span[1] - span[0]);
                x.due(paid, "cost", 0).due(ALL_IN, "cost", 1).due(paid, "cost", 2).where(0, 0, 48, 0);
            }
        }
        Run x = new Run().does("place", 9, 10, 20).folk(0, 0).does("meeting", 3, 0, 9, 11, 7);
        x.does("meeting", 3, 0, 19, 21, 9).does("begin");
        // OUT at the place in ticks 9 and 20, IN it in 10 and 19
        x.due(38 * 20 + 10 * 4 + 7 + 9, "cost", 0).due(38 * 20 + 10 * 4 + 7 + 9, "cost", 1);
    }

    private static void nothingIsToldBehindBegin() {
        Report.sentence(5, "All these are told ahead of BEGIN.");
        Run x = new Run();
        x.due(0, "place", 2, 0, 48).due(1, "place", 2, 0, 48).due(1, "way", 0, 1, 1);
        x.due(0, "folk", 0).due(1, "folk", 0).due(0, "meeting", 3, 0, 0, 1, 1);
        x.due(2, "begin");
        for (int moment = 0; moment < 3; moment++) {
            x.refused(-6, "place", 2, 0, 48).refused(-6, "way", 0, 1, 1);
            x.refused(-6, "folk", 0).refused(-6, "meeting", 3, 0, 0, 1, 1);
            x.does("tick", moment == 0 ? 1 : 47);
        }
        x.does("gone", 1);
        x.refused(-1, "meeting", 3, 0, 0, 1, 1).refused(-6, "meeting", 1, 0, 0, 1, 1);
        x.status(2, 1, 2, 1, 1);
    }

    private static void allThatMayBeThere() {
        Report.sentence(5, "All these are told ahead of BEGIN.", "all that may be there at once");
        Run x = Run.places(12, 9);
        for (int w = 0; w < 30; w++) {
            x.does("way", w % 11, w < 11 ? 11 : (w % 11 + 1) % 11, 9);
        }
        for (int f = 0; f < 20; f++) {
            x.does("folk", f % 12);
        }
        for (int m = 0; m < 10; m++) {
            x.does("meeting", (1 << 20) - 1, 11, 20, 28, 100);
        }
        x.restful().due(20, "begin").status(12, 30, 20, 20, 10, 0, 0, 0, 0, 0, 20);
        // nine have a seat there in all of the span, and who has none pays for all of it
        x.seated(11, 20, 28, 9);
        for (int f = 0; f < 9; f++) {
            x.due(144, "cost", f).due(11, "where", f, 20).due(11, "where", f, 27);
        }
        x.due(144 + 8 * 1000, "cost", 9).due(144 + 8 * 1000, "cost", 19);
        x.due(28, "tick", 28).due(0, "met", 0, 0).due((1 << 9) - 1, "met", 9, 2);
    }
}
