/** Promises 24 to 30: what can be asked. */
final class AnswerEdges {
    private static final int LOWEST = Run.LOWEST;
    private static final int HIGHEST = Run.HIGHEST;

    private AnswerEdges() {
    }

    static void all() {
        whereNobody();
        whereInNumbers();
        whereOfTheDay();
        costNobody();
        costAsLastMade();
        seatedNobody();
        seatedAsPlansAreAndWere();
        knowsNobody();
        toldInATick();
        toldAPlaceATick();
        outTellsNothing();
        goneLearnNoMore();
        knownTicks();
        metNobody();
        metInTheSpan();
        metByAll();
        metOfThisDay();
        farNobody();
        farApart();
        statusOfAnother();
        statusCounts();
        statusOfBent();
        statusOfRefusals();
    }

    // ---- promise 24

    private static void whereNobody() {
        Report.sentence(24, "NONE: no such one, GONE by then, no such TICK, ahead of BEGIN.");
        Run x = Run.line(2, 1, 0, 0);
        x.due(-1, "where", 0, 0).due(-1, "where", 0, 47).due(-1, "where", 1, 24).does("begin");
        for (int none : new int[] {-1, 2, 20, LOWEST, HIGHEST}) {
            x.due(-1, "where", none, 0).due(-1, "where", none, 47);
        }
        for (int none : new int[] {-1, 48, 49, LOWEST, HIGHEST}) {
            x.due(-1, "where", 0, none).due(-1, "where", 1, none);
        }
        x.due(0, "where", 0, 0).due(0, "where", 1, 47).dueRefusals(0, 0, 0, 0, 0, 0, 0);
        Report.sentence(24, "(TICKS lived ahead of being GONE are told.)");
        x = Run.places(1, 9).folk(0).does("begin").does("tick", 10).does("gone", 0);
        x.due(0, "where", 0, 0).due(0, "where", 0, 9).due(-1, "where", 0, 10).due(-1, "where", 0, 47);
        x.does("tick", 37).due(0, "where", 0, 9).due(-1, "where", 0, 10).does("tick", 1).due(-1, "where", 0, 9);
    }

    private static void whereInNumbers() {
        Report.sentence(24, "p IN PLACE p, 100 + p OUT at it, 200 + 12 p + q on a WAY from p to q");
        Run x = Run.places(11, 1).does("place", 1, 0, 40);
        for (int p = 0; p < 12; p++) {
            x.does("folk", p);
        }
        x.does("begin");
        for (int p = 0; p < 12; p++) {
            x.where(p, 0, 40, p).where(p, 40, 48, p < 11 ? p : 111);
        }
        // each way there and back: the other end is called for by a duty
        int[][] ends = {{0, 1}, {1, 0}, {0, 11}, {11, 0}, {11, 10}, {10, 11}, {5, 7}, {7, 5}};
        for (int[] e : ends) {
            Run y = Run.places(12, 1).does("way", e[0], e[1], 9).folk(e[0]).restful().tells(0, e[1], 20, 21, 100);
            y.does("begin").where(0, 0, 11, e[0]).where(0, 11, 20, 200 + 12 * e[0] + e[1]).where(0, 20, 38, e[1]);
            y.where(0, 38, 47, 200 + 12 * e[1] + e[0]).due(e[0], "where", 0, 47);
        }
    }

    private static void whereOfTheDay() {
        Report.sentence(24, "Where one of the FOLK was or will be in a TICK of this DAY, by the plan as it is");
        Run x = Run.line(2, 1, 0).restful().does("begin").does("bend", 0, 1, 10, 11).does("tick", 47);
        x.where(0, 0, 9, 0).due(201, "where", 0, 9).where(0, 10, 46, 1).due(212, "where", 0, 46).due(0, "where", 0, 47);
        // what was in the day ahead is told no more
        x.does("tick", 1).where(0, 0, 48, 0).does("lock", 0, true).due(201, "where", 0, 0).due(1, "where", 0, 1);
    }

    // ---- promise 25

    private static void costNobody() {
        Report.sentence(25, "NONE: no such one, GONE, ahead of BEGIN.");
        Run x = Run.places(1, 9).folk(0, 0).due(-1, "cost", 0).due(-1, "cost", 1).does("begin").due(192, "cost", 0);
        for (int none : new int[] {-1, 2, 20, LOWEST, HIGHEST}) {
            x.due(-1, "cost", none);
        }
        x.does("gone", 0).due(-1, "cost", 0).due(192, "cost", 1).does("tick", 48).due(-1, "cost", 0);
        x.dueRefusals(0, 0, 0, 0, 0, 0, 0);
    }

    private static void costAsLastMade() {
        Report.sentence(25, "The cost of the plan of one of the FOLK as it was last made, from the TICK then on");
        Run x = Run.places(2, 9).folk(0, 0).does("begin").does("tick", 10).due(192, "cost", 0);
        x.does("again", 0).due(38 * 4, "cost", 0).due(192, "cost", 1).does("tick", 37).due(38 * 4, "cost", 0);
        x.does("bend", 1, 1, 47, 48).due(204, "cost", 1).does("lock", 0, true).due(20, "cost", 0).due(220, "cost", 1);
        x.does("tick", 1).due(192, "cost", 0).due(192, "cost", 1);
        Run free = Run.places(1, 9).folk(0).likes(0, 9).does("begin").due(0, "cost", 0);
        // a duty, ten meetings and a bend, all of them elsewhere and all day long
        Run dear = new Run().does("place", 1, 0, 1).does("place", 1, 0, 48).folk(0, 0);
        for (int m = 0; m < 10; m++) {
            dear.does("meeting", 3, 1, 0, 48, 100);
        }
        dear.tells(0, 1, 0, 48, 100).does("begin").due(47 * 20 + 4 + 48 * 1100, "cost", 0);
        dear.due(47 * 20 + 4 + 48 * 1300, "bend", 0, 1, 0, 48).due(48 * 1020, "cost", 1);
    }

    // ---- promise 26

    private static void seatedNobody() {
        Report.sentence(26, "NONE: no such one, TICK, ahead of BEGIN.");
        Run x = Run.line(2, 1, 0).due(-1, "seated", 0, 0).due(-1, "seated", 1, 47).does("begin");
        for (int none : new int[] {-1, 2, 12, LOWEST, HIGHEST}) {
            x.due(-1, "seated", none, 0).due(-1, "seated", none, 47);
        }
        for (int none : new int[] {-1, 48, 49, LOWEST, HIGHEST}) {
            x.due(-1, "seated", 0, none).due(-1, "seated", 1, none);
        }
        x.due(1, "seated", 0, 0).due(1, "seated", 0, 47).due(0, "seated", 1, 1).dueRefusals(0, 0, 0, 0, 0, 0, 0);
        new Run().does("place", 1, 0, 48).does("begin").due(0, "seated", 0, 0).due(0, "seated", 0, 47);
    }

    private static void seatedAsPlansAreAndWere() {
        Report.sentence(26, "How many have a SEAT of a PLACE in a TICK of this DAY, as plans are and were");
        // OUT takes no seat, nor does a way; nine seats are all there may be
        Run x = Run.places(1, 9).does("place", 9, 0, 10);
        for (int f = 0; f < 20; f++) {
            x.does("folk", f < 10 ? 0 : 1);
        }
        x.does("begin").seated(0, 0, 48, 9).seated(1, 0, 10, 9).seated(1, 10, 48, 0);
        x.does("tick", 5).does("lock", 1, true).seated(1, 0, 5, 9).seated(1, 5, 48, 0).does("gone", 0);
        x.seated(0, 0, 5, 9).seated(0, 5, 48, 8).does("again", 9).seated(0, 0, 48, 9);
        x.does("tick", 43).seated(0, 0, 48, 9).seated(1, 0, 10, 9).seated(1, 10, 48, 0);
    }

    // ---- promise 27

    private static void knowsNobody() {
        Report.sentence(27, "else the TICK in which it was told); NONE. (GONE ones, too.)");
        Run x = Run.line(2, 1, 0, 1).due(-1, "knows", 0, 0).does("begin").due(-1, "knows", 0, 0).does("happen", 0);
        for (int none : new int[] {-1, 2, 20, LOWEST, HIGHEST}) {
            x.due(-1, "knows", none, 0);
        }
        for (int none : new int[] {-1, 1, 11, 12, 32, LOWEST, HIGHEST}) {
            x.due(-1, "knows", 0, none);
        }
        x.due(0, "knows", 0, 0).due(-1, "knows", 1, 0).does("gone", 0).due(0, "knows", 0, 0).does("tick", 48);
        x.due(0, "knows", 0, 0).dueRefusals(0, 0, 0, 0, 0, 0, 0);
    }

    private static void toldInATick() {
        Report.sentence(27, "(of those at its PLACE: NOW then; else the TICK in which it was told)");
        for (int from : new int[] {2, 3, 10, 45}) {
            Run x = Run.line(2, 1, 0, 1).restful().tells(0, 1, from, from + 1, 100).does("begin").does("happen", 0);
            x.does("tick", from).due(1, "where", 0, from).due(-1, "knows", 1, 0);
            x.does("tick", 1).due(from, "knows", 1, 0).due(0, "knows", 0, 0);
            x.does("tick", 1).due(from, "knows", 1, 0).due(0, "knows", 0, 0);
        }
        // in the last tick of a day: claims of 400 there are worth not to be at home
        Run last = Run.line(2, 1, 0, 1).does("meeting", 3, 1, 47, 48, 100).restful().tells(0, 1, 47, 48, 100);
        last.does("begin").does("happen", 0).due(444, "bend", 0, 1, 47, 48).does("tick", 47).due(-1, "knows", 1, 0);
        last.does("tick", 1).due(47, "knows", 1, 0).due(0, "knows", 0, 0);
        // in the first tick of the next day, at home again
        Run first = Run.line(2, 9, 0, 0).restful().tells(1, 1, 10, 48, 100).does("begin").does("tick", 47);
        first.does("happen", 1).due(47, "knows", 1, 0).does("tick", 1).due(-1, "knows", 0, 0);
        first.does("tick", 1).due(48, "knows", 0, 0).due(47, "knows", 1, 0);
    }

    private static void toldAPlaceATick() {
        Report.sentence(27, "those that are IN one PLACE in it tell each other all FACTS that they knew as it came");
        // 0 brings it to 1 at place 1, 1 to 2 at place 2: each a tick of its own
        Run x = Run.line(3, 1, 0, 1, 2).likes(0, 9, 5, 5).likes(1, 5, 9, 5).likes(2, 5, 5, 9);
        x.tells(0, 1, 10, 11, 100).tells(1, 2, 12, 13, 100).does("begin").does("happen", 0).does("happen", 2);
        x.does("tick", 10).due(-1, "knows", 1, 0).due(-1, "knows", 0, 1);
        x.does("tick", 1).due(10, "knows", 1, 0).due(-1, "knows", 2, 0).due(-1, "knows", 1, 1);
        x.does("tick", 1).due(-1, "knows", 2, 0).does("tick", 1).due(12, "knows", 2, 0).due(12, "knows", 1, 1);
        x.due(10, "knows", 1, 0).due(0, "knows", 0, 0).due(-1, "knows", 0, 1);
        // on the next day 1 tells 0 what it learned on this one
        x.does("tick", 35).does("tick", 10).due(-1, "knows", 0, 1).does("tick", 1).due(58, "knows", 0, 1);
        // all facts at once, among all that are there
        Run all = Run.places(2, 9).does("way", 0, 1, 1);
        for (int f = 0; f < 18; f++) {
            all.does("folk", f < 9 ? 0 : 1);
        }
        all.restful().does("begin");
        for (int fact = 0; fact < 12; fact++) {
            all.does("happen", fact % 2);
        }
        all.does("gone", 17).does("bend", 0, 1, 5, 6).does("tick", 5);
        for (int fact = 0; fact < 12; fact++) {
            all.due(fact % 2 == 0 ? 0 : -1, "knows", 0, fact).due(fact % 2 == 0 ? -1 : 0, "knows", 9, fact);
        }
        all.does("tick", 1);
        for (int fact = 0; fact < 12; fact++) {
            all.due(fact % 2 == 0 ? 0 : 5, "knows", 0, fact).due(fact % 2 == 0 ? 5 : 0, "knows", 9, fact);
            all.due(fact % 2 == 0 ? 5 : 0, "knows", 16, fact).due(fact % 2 == 0 ? 0 : -1, "knows", 1, fact);
            all.due(fact % 2 == 0 ? -1 : 0, "knows", 17, fact);
        }
    }

    private static void outTellsNothing() {
        Report.sentence(27, "those that are IN one PLACE in it tell each other");
        for (int seats = 1; seats <= 2; seats++) {
            // 0 comes for tick 20 alone; with one seat, 1 is OUT then
            Run x = new Run().does("place", seats, 0, 48).does("place", 9, 0, 48).does("way", 0, 1, 9).folk(1, 0);
            x.likes(0, 5, 9).likes(1, 9, 5).tells(0, 0, 20, 21, 100).does("begin").does("happen", 1).does("happen", 0);
            x.does("tick", 20).due(0, "where", 0, 20).due(seats == 1 ? 100 : 0, "where", 1, 20).does("tick", 1);
            x.due(seats == 1 ? -1 : 20, "knows", 1, 0).due(seats == 1 ? -1 : 20, "knows", 0, 1);
            x.does("tick", 27).due(seats == 1 ? -1 : 20, "knows", 1, 0);
            // but who is OUT sees what happens there
            x.does("tick", 20).due(2, "happen", 0).due(68, "knows", 0, 2).due(68, "knows", 1, 2);
        }
    }

    private static void goneLearnNoMore() {
        Report.sentence(27, "(Who is GONE learns no more.)");
        Run x = Run.line(2, 1, 0, 1, 1).restful().does("begin").does("happen", 0).does("gone", 2);
        x.does("bend", 0, 1, 5, 6).does("tick", 5).due(1, "where", 0, 5).does("gone", 1).does("tick", 43);
        x.due(-1, "knows", 1, 0).due(-1, "knows", 2, 0);
        x.does("happen", 1).due(-1, "knows", 1, 1);
        // who was GONE a tick later had been told
        Run y = Run.line(2, 1, 0, 1).restful().does("begin").does("happen", 0).does("bend", 0, 1, 5, 6).does("tick", 6);
        y.does("gone", 1).does("gone", 0).due(5, "knows", 1, 0).due(0, "knows", 0, 0);
    }

    private static void knownTicks() {
        Report.sentence(27, "(48 times the DAYS ahead of it, and the TICK)");
        Run x = Run.places(1, 9).folk(0).does("begin").does("happen", 0).does("tick", 47).does("happen", 0);
        x.does("tick", 1).does("happen", 0).does("tick", 48).does("happen", 0);
        x.due(0, "knows", 0, 0).due(47, "knows", 0, 1).due(48, "knows", 0, 2).due(96, "knows", 0, 3);
        for (int day = 2; day < 20; day++) {
            x.does("tick", 48);
        }
        x.does("tick", 47).does("happen", 0).due(20 * 48 + 47, "knows", 0, 4).due(0, "knows", 0, 0);
    }

    // ---- promise 28

    private static void metNobody() {
        Report.sentence(28, "NONE: no such MEETING, another what.");
        Run x = Run.line(2, 1, 0, 0);
        x.due(-1, "met", 0, 0).does("meeting", 3, 0, 0, 1, 1);
        for (int pass = 0; pass < 2; pass++) {
            for (int none : new int[] {-1, 1, 10, LOWEST, HIGHEST}) {
                x.due(-1, "met", none, 0).due(-1, "met", none, 1).due(-1, "met", none, 2);
            }
            for (int none : new int[] {-1, 3, LOWEST, HIGHEST}) {
                x.due(-1, "met", 0, none);
            }
            x.due(0, "met", 0, 0).due(0, "met", 0, 1).due(0, "met", 0, 2);
            if (pass == 0) {
                x.does("begin");
            }
        }
        x.does("tick", 1).due(1, "met", 0, 0).due(1, "met", 0, 1).due(3, "met", 0, 2).dueRefusals(0, 0, 0, 0, 0, 0, 0);
    }

    private static void metInTheSpan() {
        Report.sentence(28, "A MEETING HAPPENS in a TICK of its span in which all its FOLK are IN its PLACE.");
        int[][] spans = {{0, 1}, {0, 48}, {10, 12}, {46, 47}, {47, 48}};
        for (int[] span : spans) {
            Run x = Run.places(1, 9).folk(0, 0, 0).does("meeting", 5, 0, span[0], span[1], 1).does("begin");
            for (int now = 0; now < 48; now++) {
                int lived = Math.max(0, Math.min(now, span[1]) - span[0]);
                x.due(lived, "met", 0, 0).due(lived, "met", 0, 1).due(lived > 0 ? 5 : 0, "met", 0, 2);
                x.does("tick", 1);
            }
            int length = span[1] - span[0];
            x.due(0, "met", 0, 0).due(length, "met", 0, 1).due(0, "met", 0, 2);
            x.does("tick", 47).does("tick", 48).due(length * 2 + (span[1] < 48 ? length : length - 1), "met", 0, 1);
        }
    }

    private static void metByAll() {
        Report.sentence(28, "2 the bits of its FOLK that were IN its PLACE in some lived TICK of its span in this DAY");
        // 1 is OUT for want of a seat, 2 is elsewhere, 3 is not of it
        Run x = new Run().does("place", 1, 0, 48).does("place", 9, 0, 48).folk(0, 0, 1, 1);
        x.does("meeting", 7, 0, 10, 12, 1).does("meeting", 6, 1, 10, 12, 1).does("meeting", 12, 1, 10, 12, 1).does("begin");
        x.does("tick", 10).due(0, "met", 0, 2).does("tick", 1).due(1, "met", 0, 2).due(0, "met", 0, 0);
        x.due(4, "met", 1, 2).due(0, "met", 1, 0).due(12, "met", 2, 2).due(1, "met", 2, 0);
        // the seat is another's in the second tick: both bits are set, yet they never were there together
        x.does("gone", 0).does("again", 1).does("tick", 1).due(3, "met", 0, 2).due(0, "met", 0, 0).due(0, "met", 0, 1);
        x.due(2, "met", 2, 0).does("tick", 1).due(3, "met", 0, 2).due(2, "met", 2, 0);
        Run all = Run.places(3, 9);
        for (int f = 0; f < 20; f++) {
            all.does("folk", f / 9);
        }
        all.does("meeting", (1 << 20) - 1, 0, 0, 1, 1).does("meeting", (1 << 9) - 1, 0, 0, 1, 1);
        all.does("meeting", 1 << 19 | 1 << 18, 2, 0, 1, 1).does("begin").does("tick", 1);
        all.due(0, "met", 0, 0).due((1 << 9) - 1, "met", 0, 2).due(1, "met", 1, 0).due((1 << 9) - 1, "met", 1, 2);
        all.due(1, "met", 2, 0).due(1 << 19 | 1 << 18, "met", 2, 2);
    }

    private static void metOfThisDay() {
        Report.sentence(28, "0 in how many lived TICKS of this DAY it HAPPENED, 1 in how many it ever did");
        Run x = Run.places(1, 9).folk(0, 0).does("meeting", 3, 0, 0, 48, 100).does("begin").does("tick", 47);
        x.due(47, "met", 0, 0).due(47, "met", 0, 1).due(3, "met", 0, 2).does("tick", 1);
        x.due(0, "met", 0, 0).due(48, "met", 0, 1).due(0, "met", 0, 2).does("tick", 48).due(96, "met", 0, 1);
        x.does("tick", 1).due(1, "met", 0, 0).due(97, "met", 0, 1).due(3, "met", 0, 2);
        x.does("gone", 1).does("tick", 1).due(1, "met", 0, 0).due(97, "met", 0, 1).due(3, "met", 0, 2);
        x.does("tick", 47).due(1, "met", 0, 2).due(0, "met", 0, 0).due(97, "met", 0, 1);
    }

    // ---- promise 29

    private static void farNobody() {
        Report.sentence(29, "The least TICKS of ways between two PLACES; NONE: no way, no such PLACE.");
        Run x = Run.line(3, 4).does("place", 1, 0, 48);
        for (int none : new int[] {-1, 4, 12, LOWEST, HIGHEST}) {
            x.due(-1, "far", none, 0).due(-1, "far", 0, none).due(-1, "far", none, none);
        }
        x.due(-1, "far", 0, 3).due(-1, "far", 3, 0).due(0, "far", 3, 3).due(0, "far", 0, 0).due(8, "far", 0, 2);
        x.dueRefusals(0, 0, 0, 0, 0, 0, 0).does("begin").due(8, "far", 2, 0).due(-1, "far", 1, 3).due(-1, "far", 0, 4);
    }

    private static void farApart() {
        Report.sentence(29, "The least TICKS of ways between two PLACES");
        Run line = Run.line(12, 9);
        for (int p = 0; p < 12; p++) {
            for (int q = 0; q < 12; q++) {
                line.due(9 * Math.abs(p - q), "far", p, q);
            }
        }
        // a short cut counts for all whom it serves
        line.does("way", 0, 11, 1).due(1, "far", 0, 11).due(10, "far", 1, 11).due(10, "far", 0, 10).due(46, "far", 2, 8);
        line.due(46, "far", 8, 2).due(45, "far", 3, 8).due(45, "far", 2, 7).due(45, "far", 6, 1).due(0, "far", 6, 6);
        // two parts, told by themselves, then joined
        Run parts = Run.places(4, 1).does("way", 0, 1, 2).does("way", 2, 3, 3).due(-1, "far", 0, 3);
        parts.does("way", 1, 2, 4).due(9, "far", 0, 3).due(9, "far", 3, 0).due(6, "far", 0, 2).does("way", 3, 0, 8);
        parts.due(8, "far", 0, 3).due(6, "far", 0, 2).does("way", 3, 0, 1).due(4, "far", 0, 2).due(3, "far", 1, 3);
        Run late = Run.places(2, 1).does("way", 0, 1, 9).does("place", 1, 0, 48).due(-1, "far", 0, 2);
        late.does("way", 2, 1, 1).does("way", 0, 2, 1).due(2, "far", 0, 1);
    }

    // ---- promise 30

    private static void statusOfAnother() {
        Report.sentence(30, "NONE for another what.");
        for (Run x : new Run[] {new Run(), Run.line(2, 1, 0).does("begin")}) {
            for (int what : new int[] {-1, -7, 18, 19, LOWEST, HIGHEST, LOWEST + 10, HIGHEST - 10, LOWEST + 17}) {
                x.due(-1, "status", what);
            }
            x.due(0, "status", 17).dueRefusals(0, 0, 0, 0, 0, 0, 0);
        }
    }

    private static void statusCounts() {
        Report.sentence(30, "How many: 0 PLACES, 1 WAYS, 2 FOLK ever, 3 that are not GONE, 4 MEETINGS, 5 NOW,"
            + " 6 DAYS lived to their ends, 7 FACTS, 8 BENT FOLK, 9 LOCKED PLACES, 10 plans ever made");
        Run x = new Run().status(0, 0, 0, 0, 0, 0, 0, 0, 0, 0, 0);
        x.does("place", 1, 0, 48).status(1, 0, 0, 0, 0, 0, 0, 0, 0, 0, 0);
        x.does("place", 1, 0, 48).does("place", 1, 0, 48).status(3, 0, 0, 0, 0, 0, 0, 0, 0, 0, 0);
        x.does("way", 0, 1, 1).does("way", 1, 0, 1).status(3, 2, 0, 0, 0, 0, 0, 0, 0, 0, 0);
        x.folk(0, 1).status(3, 2, 2, 2, 0, 0, 0, 0, 0, 0, 0);
        x.does("meeting", 3, 0, 0, 1, 1).status(3, 2, 2, 2, 1, 0, 0, 0, 0, 0, 0);
        x.does("begin").status(3, 2, 2, 2, 1, 0, 0, 0, 0, 0, 2);
        x.does("tick", 47).status(3, 2, 2, 2, 1, 47, 0, 0, 0, 0, 2);
        x.does("tick", 1).status(3, 2, 2, 2, 1, 0, 1, 0, 0, 0, 4);
        x.does("happen", 2).status(3, 2, 2, 2, 1, 0, 1, 1, 0, 0, 4);
        x.does("bend", 0, 0, 0, 1).status(3, 2, 2, 2, 1, 0, 1, 1, 1, 0, 5);
        x.does("lock", 2, true).status(3, 2, 2, 2, 1, 0, 1, 1, 1, 1, 5);
        x.does("again", 1).status(3, 2, 2, 2, 1, 0, 1, 1, 1, 1, 6);
        x.does("gone", 1).status(3, 2, 2, 1, 1, 0, 1, 1, 1, 1, 6);
        x.does("tick", 48).status(3, 2, 2, 1, 1, 0, 2, 1, 0, 0, 7).dueRefusals(0, 0, 0, 0, 0, 0, 0);
    }

    private static void statusOfBent() {
        Report.sentence(30, "8 BENT FOLK");
        Run x = Run.places(1, 9);
        for (int f = 0; f < 20; f++) {
            x.does("folk", 0);
        }
        x.does("begin");
        for (int f = 0; f < 20; f++) {
            x.due(f, "status", 8).does("bend", f, 0, 0, 1).due(f + 1, "status", 8).does("bend", f, 0, 47, 48);
        }
        x.due(20, "status", 8).does("tick", 1).due(20, "status", 8);
        for (int f = 0; f < 10; f++) {
            x.does("gone", f).due(19 - f, "status", 8);
        }
        x.refused(-6, "bend", 19, 0, 0, 0).due(10, "status", 8).does("tick", 46).due(10, "status", 8);
        x.does("tick", 1).due(0, "status", 8).does("bend", 19, 0, 0, 1).due(1, "status", 8);
    }

    private static void statusOfRefusals() {
        Report.sentence(30, "11 to 17: REFUSALS -1 to -7.");
        Run x = Run.places(1, 9).folk(0).does("show", 0, 0).does("row", 1, 0, 0);
        x.refused(-1, "folk", 1).refused(-2, "set", 0, 0, 0).refused(-3, "set", 2, 0, 0).refused(-4, "row", 0, 0, -1);
        x.refused(-5, "set", 1, 0, 0).refused(-6, "place", 0, 0, 1).refused(-7, "row", 1, 0, 61);
        x.dueRefusals(1, 1, 1, 1, 1, 1, 1);
        for (int i = 0; i < 20; i++) {
            x.due(-7, "row", 1, 0, 61).due(-1, "homeIn", 8);
        }
        x.dueRefusals(21, 1, 1, 1, 1, 1, 21);
        // what answers NONE is no refusal, nor is 0
        x.due(-1, "holds", 9).due(0, "element", 9, 9).due(-1, "fault", 9).due(-1, "where", 9, 9).due(-1, "cost", 9);
        x.due(-1, "seated", 9, 9).due(-1, "knows", 9, 9).due(-1, "met", 9, 9).due(-1, "far", 9, 9).due(-1, "status", 99);
        x.does("begin").due(0, "lock", 0, false).dueRefusals(21, 1, 1, 1, 1, 1, 21).does("tick", 48);
        x.dueRefusals(21, 1, 1, 1, 1, 1, 21);
    }
}
