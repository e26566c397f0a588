/** Promises 18, 20, 22 and 23, and part 3 of the terms: how days go and what happens in them. */
final class DayEdges {
    private static final int LOWEST = Run.LOWEST;
    private static final int HIGHEST = Run.HIGHEST;

    private DayEdges() {
    }

    static void all() {
        ticksThatMayBe();
        nowGoesRound();
        twentyDays();
        tickRefusedInOrder();
        aDayBegins();
        lockRefused();
        lockedAlready();
        whoIsPlannedAtALock();
        nowAndLaterTicks();
        lockedAgainstKeys();
        lockOneAfterTheOther();
        lockOfTheLastTick();
        lockOfAll();
        goneRefused();
        goneFromNowOn();
        goneOnAWay();
        goneForEver();
        goneAtTheDaysEnd();
        allAreGone();
        happenRefusedInOrder();
        twelveFacts();
        knownAtOnce();
        factsOnAWay();
        factsOfNobody();
    }

    // ---- promise 18

    private static void ticksThatMayBe() {
        Report.sentence(18, "So many TICKS are lived: NOW. -6 n not 1 to 48, ahead of BEGIN");
        Run x = Run.line(2, 1, 0);
        for (int n : new int[] {1, 47, 48, 0, 49, -1}) {
            x.refused(-6, "tick", n);
        }
        x.does("begin");
        for (int n : new int[] {0, -1, 49, 96, LOWEST, HIGHEST}) {
            x.refused(-6, "tick", n);
        }
        x.due(1, "tick", 1).due(1, "status", 5).due(1, "tick", 48).due(1, "status", 5).due(1, "status", 6);
        for (int n : new int[] {0, -1, 49, LOWEST, HIGHEST}) {
            x.refused(-6, "tick", n);
        }
    }

    private static void nowGoesRound() {
        Report.sentence(18, "A DAY has 48 TICKS, 0 to 47; NOW is the next one to be lived.");
        for (int n = 1; n <= 48; n++) {
            Run x = Run.places(1, 1).folk(0).does("begin").due(0, "status", 5);
            x.due(n % 48, "tick", n).due(n % 48, "status", 5).due(n / 48, "status", 6).due(1 + n / 48, "status", 10);
            x.due(2 * n % 48, "tick", n).due(2 * n % 48, "status", 5).due(2 * n / 48, "status", 6);
            x.due(1 + 2 * n / 48, "status", 10);
        }
        Run x = Run.places(1, 1).folk(0).does("begin");
        for (int lived = 1; lived <= 100; lived++) {
            x.due(lived % 48, "tick", 1).due(lived / 48, "status", 6);
        }
        Run y = Run.places(1, 1).folk(0).does("begin").due(47, "tick", 47).due(0, "tick", 1).due(47, "tick", 47);
        y.due(46, "tick", 47).due(2, "status", 6).due(3, "status", 10);
    }

    private static void twentyDays() {
        Report.sentence(18, "-7 more than 20 DAYS would have been lived to their ends.");
        for (int now : new int[] {0, 1, 24, 46, 47}) {
            Run x = Run.places(1, 1).folk(0).does("begin");
            for (int day = 0; day < 19; day++) {
                x.due(0, "tick", 48);
            }
            if (now > 0) {
                x.due(now, "tick", now);
            }
            x.due(19, "status", 6).due(now, "tick", 48).due(20, "status", 6).due(21, "status", 10);
            // up to the last tick of the day one may live, but not to its end
            x.refused(-7, "tick", 48).refused(-7, "tick", 48 - now);
            if (now < 47) {
                x.due(47, "tick", 47 - now);
            }
            for (int n : new int[] {1, 2, 47, 48}) {
                x.refused(-7, "tick", n);
            }
            x.due(20, "status", 6).due(47, "status", 5).due(4, "again", 0);
            x.due(0, "happen", 0).due(20 * 48 + 47, "knows", 0, 0);
        }
    }

    private static void tickRefusedInOrder() {
        Report.sentence(18, "-6 n not 1 to 48, ahead of BEGIN; -7", Report.ORDER);
        Run x = Run.places(1, 1).folk(0).does("begin");
        for (int day = 0; day < 20; day++) {
            x.does("tick", 48);
        }
        x.does("tick", 47);
        for (int n : new int[] {0, -1, 49, LOWEST, HIGHEST}) {
            x.refused(-6, "tick", n);
        }
        x.refused(-7, "tick", 1).dueRefusals(0, 0, 0, 0, 0, 5, 1);
    }

    private static void aDayBegins() {
        Report.sentence(18, "BEGIN, and the end of a DAY, begin a DAY: NOW is 0, nothing is LOCKED, no one is BENT, and all"
            + " FOLK that aren't GONE are planned, one after the other by number, from their HOMES.");
        Run x = Run.line(2, 1, 0, 0, 1).does("meeting", 3, 1, 46, 48, 100).restful().does("begin");
        x.due(144 + 200, "cost", 0).does("gone", 2).does("bend", 0, 1, 0, 48).does("bend", 1, 1, 0, 48);
        x.does("lock", 0, true).does("tick", 47);
        // in the last tick all is as it was
        x.status(2, 1, 3, 2, 1, 47, 0, 0, 2, 1).due(1, "where", 0, 47).due(1, "where", 1, 47);
        int plans = (int) x.answer("status", 10);
        x.due(0, "tick", 1).status(2, 1, 3, 2, 1, 0, 1, 0, 0, 0, plans + 2);
        x.where(0, 0, 48, 0).where(1, 0, 48, 0).where(2, 0, 48, -1).due(144 + 200, "cost", 0).due(144 + 200, "cost", 1);
        x.seated(0, 0, 48, 2).seated(1, 0, 48, 0);
        // what is locked now is locked anew, and who is bent is bent anew
        x.due(2, "lock", 0, true).due(1, "status", 9).does("bend", 0, 0, 0, 1).due(1, "status", 8);
    }

    // ---- promise 20

    private static void lockRefused() {
        Report.sentence(20, "-1; -6 ahead of BEGIN.");
        Run x = Run.line(2, 1, 0);
        for (int pass = 0; pass < 2; pass++) {
            for (int none : new int[] {-1, 2, 12, 32, LOWEST, HIGHEST}) {
                x.refused(-1, "lock", none, true).refused(-1, "lock", none, false);
            }
            if (pass == 0) {
                x.refused(-6, "lock", 0, true).refused(-6, "lock", 1, false).does("begin");
            }
        }
        x.due(0, "status", 9).due(1, "lock", 0, true).due(1, "status", 9);
    }

    private static void lockedAlready() {
        Report.sentence(20, "(0 if it is so already.)");
        Run x = Run.line(2, 1, 0, 0).does("begin");
        x.due(0, "lock", 0, false).due(0, "status", 9).due(2, "lock", 0, true).due(1, "status", 9);
        x.due(0, "lock", 0, true).due(1, "status", 9).due(4, "status", 10).due(0, "lock", 0, false).due(0, "status", 9);
        x.due(0, "lock", 0, false).due(4, "status", 10);
        Report.sentence(20, "It is unlocked: nobody is.");
        // nobody has a plan to be IN it now
        x.seated(0, 0, 48, 0).due(0, "lock", 0, true).due(4, "status", 10).due(1, "status", 9);
    }

    private static void whoIsPlannedAtALock() {
        Report.sentence(20, "all FOLK whose plans have them IN it in NOW or a later TICK are RE-PLANNED");
        // 0 is IN it, 1 was and is GONE, 2 is OUT at it, 3 is elsewhere
        Run x = new Run().does("place", 2, 0, 48).does("place", 9, 0, 48).folk(0, 0, 0, 1).does("begin");
        x.where(0, 0, 48, 0).where(1, 0, 48, 0).where(2, 0, 48, 100).where(3, 0, 48, 1).does("gone", 1);
        x.due(1, "lock", 0, true).due(4 + 1, "status", 10).where(0, 0, 48, 100).where(2, 0, 48, 100).where(3, 0, 48, 1);
        x.due(960, "cost", 0).due(960, "cost", 2).due(192, "cost", 3);
        new Run().does("place", 1, 0, 48).does("begin").due(0, "lock", 0, true).due(1, "status", 9);
    }

    private static void nowAndLaterTicks() {
        Report.sentence(20, "all FOLK whose plans have them IN it in NOW or a later TICK");
        for (int now = 1; now <= 47; now++) {
            Run x = Run.line(2, 1, 0).likes(0, 9, 5).tells(0, 1, 10, 12, 100).does("begin").does("tick", now);
            x.where(0, 0, 9, 0).due(201, "where", 0, 9).where(0, 10, 12, 1).due(212, "where", 0, 12).where(0, 13, 48, 0);
            x.due(now <= 11 ? 1 : 0, "lock", 1, true).due(now <= 11 ? 2 : 1, "status", 10).due(1, "status", 9);
            // what was lived stays: the tick ahead is as it was
            if (now == 11) {
                x.due(1, "where", 0, 10).due(212, "where", 0, 11).where(0, 12, 48, 0).due(103, "cost", 0);
                x.seated(1, 10, 11, 1).seated(1, 11, 48, 0);
            }
            if (now == 10) {
                x.due(201, "where", 0, 9).due(212, "where", 0, 10).where(0, 11, 48, 0).due(203, "cost", 0);
            }
        }
    }

    private static void lockedAgainstKeys() {
        Report.sentence(20, "IN may one be at a TICK only if the PLACE is OPEN to one (its hours, or a KEY), it isn't LOCKED");
        Run x = Run.places(1, 9).folk(0, 0).does("key", 0, 0, true).does("begin");
        x.due(2, "lock", 0, true).where(0, 0, 48, 100).where(1, 0, 48, 100).due(960, "again", 0);
        x.does("lock", 0, false).due(192, "again", 0).where(1, 0, 48, 100);
        Report.sentence(20, "A PLACE is LOCKED for the rest of the DAY");
        x.due(1, "lock", 0, true).does("tick", 47).due(100, "where", 0, 47).due(20, "again", 0);
        x.does("tick", 1).due(0, "status", 9).where(0, 0, 48, 0).where(1, 0, 48, 0);
    }

    private static void lockOneAfterTheOther() {
        Report.sentence(20, "one after the other by number (each with the others' plans as they are by then)");
        // three at home, one seat next door: the first of them takes it
        Run x = Run.places(1, 9).does("place", 1, 0, 48).does("way", 0, 1, 1).folk(0, 0, 0).restful().does("begin");
        x.due(3, "lock", 0, true).due(6, "status", 10);
        x.due(201, "where", 0, 0).where(0, 1, 46, 1).due(212, "where", 0, 46).due(100, "where", 0, 47);
        x.due(47 * 3 + 20, "cost", 0).seated(1, 1, 46, 1).seated(0, 0, 48, 0);
        for (int f = 1; f < 3; f++) {
            // to and fro, one tick OUT at home to have an even number of ways, and the last one OUT
            x.due(100, "where", f, 0).due(201, "where", f, 1).due(212, "where", f, 2).due(46 * 3 + 40, "cost", f);
        }
        // whose place is locked later has the others' plans as they are: the seat is taken
        Run y = Run.places(1, 9).does("place", 1, 0, 48).does("way", 0, 1, 1).folk(1, 0).restful().does("begin");
        y.due(1, "lock", 0, true).where(0, 0, 48, 1).due(46 * 3 + 40, "cost", 1);
    }

    private static void lockOfTheLastTick() {
        Report.sentence(20, "IN it in NOW or a later TICK", "the DAY's last one");
        Run x = Run.places(1, 9).folk(0, 0).does("begin").does("tick", 47).does("gone", 1);
        x.due(1, "lock", 0, true).due(20, "cost", 0).where(0, 0, 47, 0).due(100, "where", 0, 47);
        x.does("tick", 1).due(192, "cost", 0).due(0, "status", 9).where(0, 0, 48, 0);
        Run y = new Run().does("place", 9, 0, 47).folk(0).does("begin").does("tick", 46).due(1, "lock", 0, true);
        y.does("lock", 0, false).does("again", 0).does("tick", 1).due(0, "lock", 0, true).due(1, "status", 9);
    }

    private static void lockOfAll() {
        Report.sentence(20, "A PLACE is LOCKED, or unlocked: how many were RE-PLANNED.");
        Run x = Run.places(12, 9);
        for (int f = 0; f < 20; f++) {
            x.does("folk", f % 12);
        }
        x.does("begin");
        for (int p = 0; p < 12; p++) {
            x.due(p < 8 ? 2 : 1, "lock", p, true).due(p + 1, "status", 9);
        }
        x.due(40, "status", 10);
        for (int p = 11; p >= 0; p--) {
            x.due(0, "lock", p, false).due(p, "status", 9);
        }
        x.due(40, "status", 10).due(960, "cost", 19);
    }

    // ---- promise 22

    private static void goneRefused() {
        Report.sentence(22, "-1; -6 ahead of BEGIN.");
        Run x = Run.line(2, 1, 0, 0);
        for (int none : new int[] {-1, 2, 20, LOWEST, HIGHEST}) {
            x.refused(-1, "gone", none);
        }
        x.refused(-6, "gone", 0).refused(-6, "gone", 1).due(2, "status", 3).does("begin");
        for (int none : new int[] {-1, 2, 20, LOWEST, HIGHEST}) {
            x.refused(-1, "gone", none);
        }
        x.due(1, "gone", 0).refused(-1, "gone", 0).does("tick", 48).refused(-1, "gone", 0).due(0, "gone", 1);
        x.refused(-1, "gone", 1).due(2, "status", 2).due(0, "status", 3);
    }

    private static void goneFromNowOn() {
        Report.sentence(22, "Who is GONE is nowhere from NOW on, for ever, and takes no SEATS; nobody is RE-PLANNED.");
        for (int now : new int[] {0, 1, 24, 46, 47}) {
            Run x = Run.places(1, 1).folk(0, 0).does("begin");
            if (now > 0) {
                x.does("tick", now);
            }
            x.due(1, "gone", 0).where(0, 0, now, 0).where(0, now, 48, -1).due(-1, "cost", 0);
            x.seated(0, 0, now, 1).seated(0, now, 48, 0).where(1, 0, 48, 100).due(960, "cost", 1);
            x.due(2, "status", 10).due(2, "status", 2).due(1, "status", 3);
            // the seat is free to who is planned next
            x.due(4 * (48 - now), "again", 1).where(1, 0, now, 100).where(1, now, 48, 0).seated(0, 0, 48, 1);
        }
    }

    private static void goneOnAWay() {
        Report.sentence(22, "Who is GONE is nowhere from NOW on");
        for (int now = 1; now <= 6; now++) {
            Run x = Run.line(2, 5, 0, 1).restful().tells(0, 1, 5, 6, 100).does("begin").does("tick", now).does("gone", 0);
            x.where(0, 0, Math.min(5, now), 201).where(0, 5, now, 1).where(0, now, 48, -1);
            x.seated(1, 0, 5, 1).seated(1, 5, now, 2).seated(1, Math.max(5, now), 48, 1);
        }
    }

    private static void goneForEver() {
        Report.sentence(22, "Who is GONE is nowhere from NOW on, for ever", "day by day");
        Run x = Run.line(2, 1, 0, 0, 1).does("meeting", 3, 1, 10, 12, 50).restful().does("begin").does("bend", 0, 1, 0, 48);
        x.does("gone", 0).status(2, 1, 3, 2, 1, 0, 0, 0, 0, 0, 4);
        for (int day = 0; day < 3; day++) {
            x.does("tick", 48).where(0, 0, 48, -1).due(-1, "cost", 0).due(2, "status", 3).due(6 + 2 * day, "status", 10);
            // the other one of the meeting keeps it, though it can't happen
            x.due(1, "where", 1, 10).due(1, "where", 1, 11);
        }
        x.refused(-1, "again", 0).refused(-1, "bend", 0, 0, 0, 1).refused(-1, "key", 0, 0, true);
        x.refused(-1, "duties", 0, 7).refused(-1, "likes", 0, 7).due(0, "met", 0, 1);
        x.due(0, "lock", 1, false).due(2, "lock", 1, true);
    }

    private static void goneAtTheDaysEnd() {
        Report.sentence(22, "Who is GONE is nowhere from NOW on", "the DAY's last TICK, and the next one's first");
        Run x = Run.places(1, 9).folk(0, 0).does("begin").does("tick", 47).does("gone", 0);
        x.where(0, 0, 47, 0).due(-1, "where", 0, 47).seated(0, 0, 47, 2).due(1, "seated", 0, 47);
        x.does("tick", 1).where(0, 0, 48, -1).seated(0, 0, 48, 1).does("gone", 1).where(1, 0, 48, -1).seated(0, 0, 48, 0);
    }

    private static void allAreGone() {
        Report.sentence(22, "One of the FOLK is GONE: how many there are still.");
        Run x = Run.places(3, 9);
        for (int f = 0; f < 20; f++) {
            x.does("folk", f % 3);
        }
        x.does("begin").due(20, "status", 3);
        for (int f = 19; f >= 0; f--) {
            x.due(f, "gone", f).due(f, "status", 3).due(20, "status", 2);
        }
        x.due(0, "tick", 48).due(20, "status", 10).due(0, "lock", 0, true).due(0, "happen", 0).due(-1, "knows", 0, 0);
    }

    // ---- promise 23

    private static void happenRefusedInOrder() {
        Report.sentence(23, "A FACT at a PLACE: its number. -1; -6 ahead of BEGIN; -7.", Report.ORDER);
        Run x = Run.line(2, 1, 0);
        for (int none : new int[] {-1, 2, 12, LOWEST, HIGHEST}) {
            x.refused(-1, "happen", none);
        }
        x.refused(-6, "happen", 0).refused(-6, "happen", 1).does("begin");
        for (int none : new int[] {-1, 2, 12, LOWEST, HIGHEST}) {
            x.refused(-1, "happen", none);
        }
        for (int fact = 0; fact < 12; fact++) {
            x.due(fact, "happen", fact % 2).due(fact + 1, "status", 7);
        }
        x.refused(-7, "happen", 0).refused(-7, "happen", 1).refused(-1, "happen", 2).refused(-1, "happen", -1);
    }

    private static void twelveFacts() {
        Report.sentence(23, "A FACT, 12 at most in a house's life");
        Run x = Run.places(1, 9).folk(0).does("begin");
        for (int fact = 0; fact < 12; fact++) {
            x.due(-1, "knows", 0, fact).due(fact, "happen", 0).due(48 * fact, "knows", 0, fact).does("tick", 48);
        }
        // a new day leaves no room for more
        x.refused(-7, "happen", 0).does("tick", 48).refused(-7, "happen", 0).due(12, "status", 7);
        x.does("gone", 0).refused(-7, "happen", 0).due(0, "knows", 0, 0).due(48 * 11, "knows", 0, 11);
    }

    private static void knownAtOnce() {
        Report.sentence(23, "is known at once to all FOLK that are IN or OUT at its PLACE in TICK NOW");
        // 0 and 1 are IN place 0, 2 is OUT at it, 3 is IN place 1, 4 is OUT at it
        Run x = Run.places(1, 2).does("place", 1, 0, 48).folk(0, 0, 0, 1, 1).does("begin");
        x.where(0, 0, 1, 0).where(1, 0, 1, 0).where(2, 0, 1, 100).where(3, 0, 1, 1).where(4, 0, 1, 101);
        for (int now = 0; now < 2; now++) {
            x.due(2 * now, "happen", 0).due(2 * now + 1, "happen", 1);
            for (int f = 0; f < 5; f++) {
                x.due(f < 3 ? 47 * now : -1, "knows", f, 2 * now).due(f < 3 ? -1 : 47 * now, "knows", f, 2 * now + 1);
            }
            x.does("tick", 47);
        }
        x.does("gone", 0).due(4, "happen", 0).due(-1, "knows", 0, 4).due(94, "knows", 1, 4).due(94, "knows", 2, 4);
    }

    private static void factsOnAWay() {
        Report.sentence(23, "IN or OUT at its PLACE in TICK NOW", "on a WAY one is at neither end");
        Run x = Run.line(2, 3, 0).restful().tells(0, 1, 5, 6, 100).does("begin");
        for (int now = 0; now <= 5; now++) {
            x.due(2 * now, "happen", 0).due(2 * now + 1, "happen", 1);
            x.due(now < 2 ? now : -1, "knows", 0, 2 * now).due(now == 5 ? 5 : -1, "knows", 0, 2 * now + 1);
            x.does("tick", 1);
        }
        x.refused(-7, "happen", 0);
    }

    private static void factsOfNobody() {
        Report.sentence(23, "A FACT at a PLACE: its number.");
        Run x = Run.places(2, 9).folk(0).does("begin").due(0, "happen", 1).does("tick", 48).due(-1, "knows", 0, 0);
        x.due(1, "happen", 1).due(2, "happen", 0).due(-1, "knows", 0, 1).due(48, "knows", 0, 2).due(3, "status", 7);
        Run none = new Run().does("place", 1, 0, 48).does("begin").due(0, "happen", 0).due(-1, "knows", 0, 0);
        none.due(1, "status", 7).does("tick", 48).due(1, "happen", 0);
    }
}
