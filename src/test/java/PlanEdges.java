/** Promises 17, 19 and 21, and part 2 of the terms: plans, bends, and being planned again. */
final class PlanEdges {
    private static final int LOWEST = Run.LOWEST;
    private static final int HIGHEST = Run.HIGHEST;

    private PlanEdges() {
    }

    static void all() {
        howManyArePlanned();
        beginTwice();
        oneAfterTheOther();
        whatTicksCost();
        homeInTheLastTick();
        waysBehindTheLastTick();
        claimsTickByTick();
        claimsAddUp();
        inBeforeOut();
        inBeforeGoing();
        outBeforeGoing();
        lesserPlaceFirst();
        whoStandsOut();
        plannedNext();
        seatsTickByTick();
        othersPlansAsTheyAre();
        spansOfBends();
        restOfTheSpan();
        newerBends();
        weightOfBends();
        onAWay();
        onAWayBehindTheDay();
        whatWasLivedStays();
        againRefused();
        againFromNowOn();
        againAtTheDaysEnd();
    }

    // ---- promise 17

    private static void howManyArePlanned() {
        Report.sentence(17, "BEGIN: how many FOLK were planned.");
        for (int folk = 0; folk <= 20; folk++) {
            Run x = Run.places(3, 9);
            for (int f = 0; f < folk; f++) {
                x.does("folk", f % 3);
            }
            x.due(0, "status", 10).due(folk, "begin").due(folk, "status", 10).due(0, "status", 5).due(0, "status", 6);
            x.due(folk > 0 ? 0 : -1, "where", 0, 0).due(folk > 0 ? 0 : -1, "where", 0, 47);
        }
        new Run().due(0, "begin").status(0, 0, 0, 0, 0, 0, 0, 0, 0, 0, 0);
    }

    private static void beginTwice() {
        Report.sentence(17, "-6 it was already.");
        Run x = Run.line(2, 1, 0).does("begin");
        x.refused(-6, "begin").does("tick", 1).refused(-6, "begin").does("tick", 47).refused(-6, "begin");
        x.due(2, "status", 10);
        Run y = new Run().does("begin").refused(-6, "begin").refused(-6, "place", 1, 0, 48);
    }

    private static void oneAfterTheOther() {
        Report.sentence(17, "all FOLK that aren't GONE are planned, one after the other by number, from their HOMES");
        Run x = Run.places(2, 1).folk(1, 1, 0, 0).does("begin");
        x.where(0, 0, 48, 1).where(1, 0, 48, 101).where(2, 0, 48, 0).where(3, 0, 48, 100);
        // with the seat of one GONE, the one behind is the first on the next day
        x.does("gone", 0).where(1, 0, 48, 101).does("tick", 47).does("gone", 2).due(100, "where", 3, 47);
        x.does("tick", 1).where(1, 0, 48, 1).where(3, 0, 48, 0).where(0, 0, 48, -1).where(2, 0, 48, -1);
        x.due(4 + 2, "status", 10).does("gone", 1).does("gone", 3).does("tick", 48).due(6, "status", 10);
    }

    // ---- what plans cost

    private static void whatTicksCost() {
        Report.sentence(17, "a TICK IN a PLACE costs 9 less the LIKE, OUT 20, on a WAY 3");
        for (int like = 0; like <= 9; like++) {
            Run x = new Run().does("place", 1, 0, 30).folk(0).likes(0, like).does("begin");
            x.due(30 * (9 - like) + 18 * 20, "cost", 0);
        }
        // with a like of 6 a tick IN costs as much as one on a way, with one of 5 more
        for (int like : new int[] {5, 6, 7}) {
            Run x = Run.line(2, 1, 0).likes(0, like, like).does("begin");
            boolean goes = like < 6;
            x.due(goes ? 46 * 3 + 8 : 48 * (9 - like), "cost", 0);
            x.due(0, "where", 0, 0).due(goes ? 201 : 0, "where", 0, 1).due(goes ? 212 : 0, "where", 0, 2);
        }
    }

    private static void homeInTheLastTick() {
        Report.sentence(17, "Who isn't at HOME (IN or OUT) in the DAY's last TICK pays 300 more.");
        // OUT at home
        Run x = new Run().does("place", 1, 0, 47).folk(0).does("begin");
        x.due(47 * 4 + 20, "cost", 0).due(100, "where", 0, 47);
        // ticks of the duty that are let go to be at home cost 100 each; four of them are not let go
        for (int last = 40; last <= 48; last++) {
            Run y = Run.line(2, 1, 0).restful().tells(0, 1, last - 4, last, 100).does("begin");
            int lost = Math.max(0, last - 46);
            y.due(144 + 100 * lost, "cost", 0).due(0, "where", 0, 47).due(212, "where", 0, 46);
        }
        Run stays = Run.line(2, 3, 0).restful().tells(0, 1, 40, 48, 100).does("begin");
        stays.due(144 + 300, "cost", 0).where(0, 40, 48, 1);
        // the last three ticks of the duty cost as much as not to be at home, and IN is before going
        Run alike = Run.line(2, 2, 0).restful().tells(0, 1, 40, 48, 100).does("begin");
        alike.due(144 + 300, "cost", 0).where(0, 40, 48, 1);
        Run goes = Run.line(2, 2, 0).restful().tells(0, 1, 40, 48, 99).does("begin");
        goes.due(144 + 297, "cost", 0).where(0, 45, 47, 212).due(0, "where", 0, 47);
    }

    private static void waysBehindTheLastTick() {
        Report.sentence(17, "(a WAY that ends behind the DAY's last TICK may be gone)");
        // nine ticks home: begun in 38 one is there in 47, begun in 39 the day ends as the way does
        int[][] ends = {{38, 0}, {39, 1}, {40, 2}, {41, 3}};
        for (int[] e : ends) {
            Run x = Run.line(2, 9, 0).tells(0, 1, 9, e[0], 100).does("begin");
            x.due(27 + 29 * 4 + 100 * e[1] + 27 + 4, "cost", 0).where(0, 38, 47, 212).due(0, "where", 0, 47);
        }
        for (int end = 42; end <= 48; end++) {
            Run x = Run.line(2, 9, 0).tells(0, 1, 9, end, 100).does("begin");
            x.due(27 + (end - 9) * 4 + (48 - end) * 3 + 300, "cost", 0).where(0, 9, end, 1).where(0, end, 48, 212);
            // the way isn't gone on the next day
            x.does("tick", 48).where(0, 0, 9, 201).where(0, 9, end, 1);
        }
    }

    private static void claimsTickByTick() {
        Report.sentence(17, "each TICK of it in which one isn't IN that PLACE costs its WEIGHT");
        // OUT at the place, on a way, IN another place: each costs the weight
        int[][] spans = {{0, 1}, {9, 10}, {9, 11}, {10, 20}, {19, 21}, {20, 21}, {47, 48}, {0, 48}};
        for (int[] span : spans) {
            Run x = new Run().does("place", 1, 10, 20).folk(0).tells(0, 0, span[0], span[1], 13).does("begin");
            int in = Math.max(0, Math.min(20, span[1]) - Math.max(10, span[0]));
            x.due(38 * 20 + 10 * 4 + 13 * (span[1] - span[0] - in), "cost", 0);
        }
        Run x = Run.line(2, 4, 0).restful().tells(0, 1, 0, 5, 60).does("begin");
        x.where(0, 0, 4, 201).due(1, "where", 0, 4).due(144 + 4 * 60, "cost", 0);
        Run y = Run.line(2, 5, 0).restful().tells(0, 1, 0, 5, 60).does("begin");
        y.where(0, 0, 48, 0).due(144 + 5 * 60, "cost", 0);
    }

    private static void claimsAddUp() {
        Report.sentence(17, "Claims of one of the FOLK: its DUTIES, the MEETINGS that it is of, its BEND if it is BENT.");
        Run x = Run.places(3, 9).folk(0, 0).does("meeting", 3, 1, 5, 10, 20).does("meeting", 3, 2, 9, 12, 30);
        x.tells(0, 1, 9, 11, 100).does("begin");
        int meetings = 5 * 20 + 3 * 30;
        x.due(192 + meetings + 200, "cost", 0).due(192 + meetings, "cost", 1);
        x.due(192 + meetings + 200 + 400, "bend", 0, 2, 9, 11).due(192 + meetings + 400, "bend", 1, 1, 9, 11);
        // of two claims at once the dearer one is kept, of two alike the one that needs no going
        for (int weight : new int[] {49, 50, 51}) {
            Run y = Run.line(2, 1, 0, 0).does("meeting", 3, 1, 20, 22, 50).restful();
            y.tells(0, 0, 20, 22, weight).does("begin");
            y.due(weight < 50 ? 1 : 0, "where", 0, 20).due(144 + 2 * Math.min(weight, 50), "cost", 0);
        }
    }

    private static void inBeforeOut() {
        Report.sentence(17, "is IN before OUT before going");
        Run x = new Run().does("place", 1, 0, 48).folk(0).likes(0, 0).does("begin");
        x.where(0, 0, 48, 0).due(48 * 9, "cost", 0);
    }

    private static void inBeforeGoing() {
        Report.sentence(17, "is IN before OUT before going");
        // all ticks cost 3: one goes as late as may be, and comes back as late as may be
        for (int from = 1; from <= 45; from += 4) {
            Run x = Run.line(2, 1, 0).restful().tells(0, 1, from, from + 1, 9).does("begin");
            x.where(0, 0, from - 1, 0).due(201, "where", 0, from - 1).where(0, from, 46, 1);
            x.due(212, "where", 0, 46).due(0, "where", 0, 47).due(144, "cost", 0);
        }
    }

    private static void outBeforeGoing() {
        Report.sentence(17, "is IN before OUT before going");
        // one tick OUT, here ahead of the way or there behind it: here
        Run x = new Run().does("place", 1, 47, 48).does("place", 1, 10, 11).does("way", 0, 1, 9).folk(0);
        x.tells(0, 1, 10, 11, 100).does("begin");
        x.due(100, "where", 0, 0).where(0, 1, 10, 201).due(1, "where", 0, 10).where(0, 11, 20, 101);
        x.where(0, 20, 29, 212).where(0, 29, 38, 201).where(0, 38, 47, 212).due(0, "where", 0, 47);
        x.due(20 + 27 + 4 + 180 + 81 + 4, "cost", 0);
    }

    private static void lesserPlaceFirst() {
        Report.sentence(17, "and goes to the PLACE of the lesser number");
        // one may be IN home in the last tick alone, and goes to a place near or far: all costs the same
        int[][] lengths = {{1, 1}, {5, 1}, {1, 5}, {9, 1}};
        for (int[] l : lengths) {
            for (int first = 1; first <= 2; first++) {
                Run x = new Run().does("place", 1, 47, 48).does("place", 1, 0, 48).does("place", 1, 0, 48);
                // the ways to 1 and 2, told in either order
                x.does("way", first, 0, l[first - 1]).does("way", 0, 3 - first, l[2 - first]);
                x.folk(0).restful().does("begin");
                x.due(144, "cost", 0).where(0, 0, l[0], 201).where(0, l[0], 47 - l[0], 1);
                x.where(0, 47 - l[0], 47, 212).due(0, "where", 0, 47);
            }
        }
        Run far = Run.places(12, 1).does("way", 11, 10, 2).does("way", 11, 9, 2).does("way", 11, 0, 2).folk(11);
        far.likes(0, 5, 5, 5, 5, 5, 5, 5, 5, 5, 5, 5, 5).does("begin");
        // 47 ticks ahead of the last, of which a way to and fro takes four: three are IN
        far.where(0, 0, 3, 11).where(0, 3, 5, 200 + 12 * 11).where(0, 5, 7, 211).due(44 * 3 + 4 * 4, "cost", 0);
    }

    private static void whoStandsOut() {
        Report.sentence(17, "Who stands at a PLACE as a TICK comes (at HOME as the DAY begins) may be IN it, be OUT at it, or go");
        for (int p = 0; p < 12; p++) {
            Run x = new Run();
            for (int q = 0; q < 12; q++) {
                x.does("place", 1, 0, 10);
            }
            // OUT since 10: with a key one goes in, with a way one goes
            x.folk(p).does("begin").does("tick", 20).where(0, 0, 10, p).where(0, 10, 48, 100 + p);
            x.due(28 * 20, "again", 0).where(0, 20, 48, 100 + p).does("key", 0, p, true).due(28 * 4, "again", 0);
            x.where(0, 0, 10, p).where(0, 10, 20, 100 + p).where(0, 20, 48, p);
            x.does("key", 0, p, false).does("tick", 1).due(27 * 20, "again", 0);
            x.due(p, "where", 0, 20).where(0, 21, 48, 100 + p);
            int q = p == 11 ? 10 : 11;
            Run y = Run.places(12, 1).does("way", p, q, 3).folk(p).restful().does("begin").does("lock", p, true);
            y.where(0, 0, 3, 200 + 12 * p + q).where(0, 3, 44, q).where(0, 44, 47, 200 + 12 * q + p);
            y.due(100 + p, "where", 0, 47).does("tick", 3).does("lock", q, true).due(13 * 9 + 6 * 20, "cost", 0);
            // of 44 ticks, thirteen ways take 39, and a fourteenth would lead away from home: five are OUT, ahead of all
            y.where(0, 3, 8, 100 + q).where(0, 8, 11, 200 + 12 * q + p).where(0, 11, 14, 200 + 12 * p + q);
            y.does("tick", 1).due(13 * 9 + 5 * 20, "again", 0).where(0, 3, 8, 100 + q).where(0, 8, 11, 200 + 12 * q + p);
        }
    }

    private static void plannedNext() {
        Report.sentence(17, "(LIKES, KEYS and DUTIES that change count when one is planned next.)");
        // by a bend, by a lock, by again, by a new day
        for (int way = 0; way < 4; way++) {
            Run x = Run.line(2, 1, 0).restful().does("begin").likes(0, 6, 9).tells(0, 1, 20, 24, 100);
            x.where(0, 0, 48, 0).due(144, "cost", 0);
            if (way == 0) {
                x.due(2 * 3 + 3, "bend", 0, 1, 1, 2);
            } else if (way == 1) {
                x.due(1, "lock", 0, true);
            } else if (way == 2) {
                x.due(2 * 3 + 3, "again", 0);
            } else {
                x.does("tick", 48);
            }
            x.due(201, "where", 0, 0).where(0, 1, 46, 1).due(212, "where", 0, 46).due(way == 1 ? 100 : 0, "where", 0, 47);
            x.due(way == 1 ? 2 * 3 + 20 : 2 * 3 + 3, "cost", 0);
        }
        // a key of a place that is closed now
        Run key = new Run().does("place", 1, 10, 48).folk(0).does("begin").does("tick", 5).does("key", 0, 0, true);
        key.where(0, 0, 10, 100).due(43 * 4, "bend", 0, 0, 5, 6).where(0, 0, 5, 100).where(0, 5, 48, 0);
    }

    private static void seatsTickByTick() {
        Report.sentence(17, "and the others' plans leave a SEAT in that TICK (a plan takes a SEAT in each TICK in which one is IN)");
        Run x = Run.places(1, 9).does("place", 1, 0, 48).does("way", 0, 1, 1).folk(0, 0);
        x.likes(0, 9, 5).likes(1, 9, 5).tells(0, 1, 10, 12, 100).tells(1, 1, 9, 13, 100).does("begin");
        x.where(0, 0, 9, 0).due(201, "where", 0, 9).where(0, 10, 12, 1).due(212, "where", 0, 12).where(0, 13, 48, 0);
        x.due(3 + 8 + 3, "cost", 0);
        x.where(1, 0, 8, 0).due(201, "where", 1, 8).due(1, "where", 1, 9).due(212, "where", 1, 10);
        x.due(201, "where", 1, 11).due(1, "where", 1, 12).due(212, "where", 1, 13).where(1, 14, 48, 0);
        x.due(3 + 4 + 103 + 103 + 4 + 3, "cost", 1);
        x.seated(1, 0, 9, 0).seated(1, 9, 13, 1).seated(1, 13, 48, 0);
        x.seated(0, 0, 8, 2).due(1, "seated", 0, 8).seated(0, 9, 13, 0).due(1, "seated", 0, 13).seated(0, 14, 48, 2);
    }

    private static void othersPlansAsTheyAre() {
        Report.sentence(21, "It is made with all others' plans as they are.");
        Run x = Run.places(1, 1).folk(0, 0).does("begin");
        // one's own seat is free to one, that of another isn't
        x.due(960, "again", 1).due(192, "again", 0).due(960, "again", 1).where(0, 0, 48, 0);
        x.does("tick", 47).due(4, "again", 0).due(20, "again", 1);
        x.does("gone", 0).due(4, "again", 1).seated(0, 0, 48, 1);
        // a seat that is given back is free again, to the tick
        Run y = Run.places(2, 1).does("way", 0, 1, 1).folk(0, 1).likes(0, 9, 0).likes(1, 9, 6).does("begin");
        y.due(0, "cost", 0).due(48 * 3, "cost", 1).due(2 * 200, "bend", 0, 1, 20, 22).where(0, 0, 48, 0);
        y.does("gone", 1).where(0, 0, 48, 0).due(3 + 2 * 9 + 3, "again", 0).where(0, 20, 22, 1);
    }

    // ---- promise 19

    private static void spansOfBends() {
        Report.sentence(19, "-1; -6 span (as of DUTIES), ahead of BEGIN.");
        Run x = Run.line(2, 1, 0, 0, 0);
        x.refused(-6, "bend", 0, 0, 0, 1).refused(-1, "bend", 3, 0, 0, 1).refused(-1, "bend", 0, 2, 0, 1);
        x.does("begin").does("gone", 2);
        for (int none : new int[] {-1, 2, 3, 20, LOWEST, HIGHEST}) {
            x.refused(-1, "bend", none, 0, 0, 1).refused(-1, "bend", none, -1, 1, 0);
        }
        for (int none : new int[] {-1, 2, 12, LOWEST, HIGHEST}) {
            x.refused(-1, "bend", 0, none, 0, 1).refused(-1, "bend", 0, none, 1, 0);
        }
        int[][] wrong = {{-1, 0}, {-1, 1}, {0, 0}, {1, 1}, {1, 0}, {48, 48}, {48, 49}, {47, 49}, {0, 49}, {48, 0},
            {LOWEST, 1}, {0, HIGHEST}, {LOWEST, HIGHEST}};
        for (int[] span : wrong) {
            x.refused(-6, "bend", 0, 1, span[0], span[1]);
        }
        x.due(0, "status", 8).due(2 + 1, "status", 10);
        x.does("bend", 0, 1, 0, 1).does("bend", 0, 1, 47, 48).does("bend", 0, 1, 0, 48).due(1, "status", 8);
    }

    private static void restOfTheSpan() {
        Report.sentence(19, "a claim for the rest of the DAY's span told, WEIGHT 200", "the cost of the plan from NOW on");
        // place 1 can't be reached: each tick of the span from NOW on costs 200
        for (int now : new int[] {0, 1, 9, 10, 11, 19, 20, 21, 46, 47}) {
            Run x = Run.places(2, 9).folk(0).does("begin");
            if (now > 0) {
                x.does("tick", now);
            }
            int[][] spans = {{0, 1}, {10, 20}, {47, 48}, {0, 48}, {46, 47}};
            for (int[] span : spans) {
                int left = Math.max(0, span[1] - Math.max(now, span[0]));
                x.due(4 * (48 - now) + 200 * left, "bend", 0, 1, span[0], span[1]).due(1, "status", 8);
                x.due(4 * (48 - now) + 200 * left, "cost", 0);
            }
            x.does("tick", 48 - now).due(192, "cost", 0).due(0, "status", 8).due(192, "again", 0);
        }
    }

    private static void newerBends() {
        Report.sentence(19, "a new one takes the place of an older one; RE-PLANNED");
        Run x = Run.places(3, 9).folk(0, 0).does("begin");
        x.due(192 + 400, "bend", 0, 1, 10, 12).due(192 + 600, "bend", 0, 2, 40, 43).due(192, "bend", 0, 0, 0, 48);
        x.due(192 + 200, "bend", 0, 1, 5, 6).due(392, "again", 0).due(1, "status", 8).due(2 + 5, "status", 10);
        x.due(192, "cost", 1).due(192 + 200, "bend", 1, 1, 0, 1).due(2, "status", 8).due(392, "cost", 0);
        x.does("gone", 1).due(1, "status", 8).refused(-1, "bend", 1, 1, 0, 1);
    }

    private static void weightOfBends() {
        Report.sentence(19, "a claim for the rest of the DAY's span told, WEIGHT 200");
        // two claims of 100 at home weigh as much as a bend elsewhere, and need no going; with 99 one goes
        for (int weight : new int[] {99, 100}) {
            Run x = Run.line(2, 1, 0, 1).does("meeting", 3, 0, 20, 21, 100).restful().tells(0, 0, 20, 21, weight);
            x.does("begin").due(144 + 100 + weight, "bend", 0, 1, 20, 21);
            x.due(weight < 100 ? 1 : 0, "where", 0, 20);
        }
    }

    private static void onAWay() {
        Report.sentence(19, "who is on a WAY that began in an earlier TICK and isn't at its end as NOW comes goes it to its end"
            + " first (without a choice; its TICKS count as told)");
        for (int now = 0; now <= 7; now++) {
            Run x = Run.line(2, 5, 0).restful().does("begin").does("bend", 0, 1, 5, 40);
            if (now > 0) {
                x.does("tick", now);
            }
            x.where(0, 0, 5, 201);
            if (now == 0) {
                x.due(144, "bend", 0, 0, 0, 48).where(0, 0, 48, 0);
                continue;
            }
            int there = Math.max(5, now);
            int late = there + 5 - now;
            x.due(3 * (48 - now) + 200 * late, "bend", 0, 0, 0, 48).due(3 * (48 - now) + 200 * late, "cost", 0);
            x.where(0, 0, 5, 201).where(0, 5, there, 1).where(0, there, there + 5, 212).where(0, there + 5, 48, 0);
            x.due(now > 5 ? 1 : 0, "seated", 1, 5).due(0, "seated", 1, 7);
        }
        onTheSameWayAgain();
    }

    private static void onTheSameWayAgain() {
        // eleven times to and fro, two ticks each: planned again at any time, one goes on as one would have
        for (int now = 3; now <= 47; now++) {
            Run x = Run.line(2, 2, 0).likes(0, 0, 0).does("begin").does("tick", now);
            x.due(3 * (47 - now) + 9, "again", 0).where(0, 0, 3, 0).due(0, "where", 0, 47);
            for (int t = 3; t < 47; t++) {
                x.due((t - 3) % 4 < 2 ? 201 : 212, "where", 0, t);
            }
        }
    }

    private static void onAWayBehindTheDay() {
        Report.sentence(19, "goes it to its end first (without a choice; its TICKS count as told)");
        for (int now = 42; now <= 47; now++) {
            Run x = Run.line(2, 9, 0).tells(0, 1, 9, 42, 100).does("begin").does("tick", now);
            x.where(0, 9, 42, 1).where(0, 42, 48, 212);
            if (now == 42) {
                // the way has not begun yet
                x.due(6 * 4 + 300, "bend", 0, 1, 42, 48).where(0, 42, 48, 1);
                continue;
            }
            x.due((48 - now) * 3 + 300 + 200, "bend", 0, 1, 47, 48).where(0, 42, 48, 212);
            x.due((48 - now) * 3 + 300, "bend", 0, 1, 0, 1).does("tick", 48 - now).where(0, 0, 9, 201);
        }
    }

    private static void whatWasLivedStays() {
        Report.sentence(19, "What was lived stays.");
        Run x = Run.line(2, 1, 0).restful().does("begin").does("bend", 0, 1, 5, 10).does("tick", 8);
        x.due(3 * 40, "bend", 0, 0, 9, 48);
        x.where(0, 0, 4, 0).due(201, "where", 0, 4).where(0, 5, 8, 1).due(212, "where", 0, 8).where(0, 9, 48, 0);
        x.seated(1, 5, 8, 1).seated(1, 8, 48, 0).seated(0, 0, 4, 1).seated(0, 4, 9, 0).seated(0, 9, 48, 1);
        // at the last tick, one is left to be planned
        x.does("tick", 39).due(3 + 200, "bend", 0, 1, 0, 48).where(0, 5, 8, 1).where(0, 9, 48, 0);
    }

    // ---- promise 21

    private static void againRefused() {
        Report.sentence(21, "-1; -6 ahead of BEGIN.");
        Run x = Run.line(2, 1, 0, 0);
        for (int none : new int[] {-1, 2, 20, LOWEST, HIGHEST}) {
            x.refused(-1, "again", none);
        }
        x.refused(-6, "again", 0).refused(-6, "again", 1).does("begin");
        for (int none : new int[] {-1, 2, 20, LOWEST, HIGHEST}) {
            x.refused(-1, "again", none);
        }
        x.does("gone", 1).refused(-1, "again", 1).due(2, "status", 10).does("again", 0).due(3, "status", 10);
    }

    private static void againFromNowOn() {
        Report.sentence(21, "One of the FOLK is RE-PLANNED: the cost of the plan from NOW on.");
        Run x = Run.places(2, 9).folk(0, 0).tells(0, 1, 10, 12, 50).does("begin");
        int plans = 2;
        for (int now = 0; now < 48; now++) {
            int left = Math.max(0, 12 - Math.max(10, now));
            x.due(4 * (48 - now) + 50 * left, "again", 0).due(4 * (48 - now) + 50 * left, "cost", 0);
            x.due(192, "cost", 1).due(++plans, "status", 10);
            x.does("tick", 1);
        }
        x.due(192 + 100, "cost", 0).due(192, "cost", 1);
    }

    private static void againAtTheDaysEnd() {
        Report.sentence(21, "THE PLAN, from a TICK and a PLACE on to the DAY's end");
        // in the last tick, away from home: IN where one is liked well enough, else on a way
        for (int like : new int[] {5, 6, 7}) {
            Run x = Run.line(2, 9, 0).likes(0, like, like).tells(0, 1, 9, 47, 100).does("begin").does("tick", 47);
            x.due(300 + Math.min(3, 9 - like), "again", 0).due(like < 6 ? 212 : 1, "where", 0, 47);
            x.does("tick", 1).due(201, "where", 0, 0);
        }
        Run y = new Run().does("place", 1, 0, 47).folk(0).does("begin").does("tick", 47).due(20, "again", 0);
        y.does("key", 0, 0, true).due(4, "again", 0).does("tick", 1).due(192, "again", 0);
    }
}
