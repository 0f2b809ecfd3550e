/** Promises 21 to 29, sentence by sentence: what is told by hand, and the MONTHS of a YEAR. */
final class EdgesOfYear extends Check {
    static void run() {
        bend();
        bendNoSuch();
        bendOutOfBounds();
        bendSame();
        benefit();
        benefitRefused();
        month();
        monthRefused();
        takeBack();
        takeBackRefused();
        year();
        yearRefused();
        sofar();
        sofarRefused();
        nextMonth();
        nextMonthRefused();
        level();
        levelRefused();
        dueAhead();
        dueAheadRefused();
    }

    private static void bend() {
        sentence("Promise 21", "A SEGMENT is told anew: what 0 FROM, 1 AT, 2 SLOPE: as it was (AT NONE: it told none).");
        PayPromise x = desk("a=g/0:100/10:200/20:3:300;b=a/0:1000;n=b");
        due(x.bend(0, 1, 0, 11), 10);
        due(x.segment(0, 1, 0), 11);
        due(x.at(0, 11), 1_100_000_000L);
        due(x.bend(0, 1, 1, 7), NONE);
        due(x.segment(0, 1, 1), 7);
        due(x.at(0, 11), 7 * UNIT);
        due(x.bend(0, 2, 1, 4), 3);
        due(x.at(-1, 20), 4 * UNIT);
        due(x.bend(0, 2, 2, 0), 300);
        due(x.at(-1, 9999), 4 * UNIT);
        due(x.bend(0, 0, 1, 2), NONE);
        due(x.at(-1, 0), 2 * UNIT);
        due(x.bend(0, 0, 2, 0), 100);
        due(x.at(-1, 10), 2 * UNIT);
        due(x.rule(4), 3);
        statusIs(x, 0, 0, 0, 0);
    }

    private static void bendNoSuch() {
        sentence("Promise 21", "NONE - 1: no such ones, what, no DESK (STATUS 0),");
        PayPromise x = desk("a=g/0:100/10:200;b=g/0:1;n=a");
        int refused = 0;
        for (int none : new int[] {-1, 2, Integer.MIN_VALUE, Integer.MAX_VALUE}) {
            due(x.bend(none, 0, 2, 5), NO_SUCH);
            due(x.bend(0, none, 2, 5), NO_SUCH);
            refused += 2;
        }
        due(x.bend(1, 1, 2, 5), NO_SUCH);
        for (int none : new int[] {-1, 3, Integer.MIN_VALUE, Integer.MAX_VALUE}) {
            due(x.bend(0, 1, none, 5), NO_SUCH);
            refused++;
        }
        statusIs(x, refused + 1, 0, 0, 0);
        due(spelled(x, 0), "a=g/0:100/10:200");
        x = new PayPromise();
        due(x.bend(0, 0, 2, 5), NO_SUCH);
        statusIs(x, 1, 0, 0, 0);
        x = desk("n=g");
        due(x.bend(0, 0, 2, 5), NO_SUCH);
        due(x.bend(-1, 0, 2, 5), NO_SUCH);
        statusIs(x, 2, 0, 0, 0);
    }

    private static void bendOutOfBounds() {
        sentence("Promise 21", "out of bounds, FROM of the first one, not between its neighbours (1),");
        PayPromise x = desk("a=g/0:1:100/10:2:200/20:3:300;n=a");
        int[][] refused = {
            {0, 0, -1}, {0, 0, 0}, {0, 0, 1}, {0, 0, 9}, {0, 0, 10000},
            {1, 0, -1}, {1, 0, 0}, {1, 0, 20}, {1, 0, 21}, {1, 0, 10000}, {1, 0, Integer.MIN_VALUE},
            {2, 0, 9}, {2, 0, 10}, {2, 0, 10000}, {2, 0, Integer.MAX_VALUE}, {2, 0, -1},
            {0, 1, -1}, {0, 1, 10000}, {2, 1, Integer.MIN_VALUE}, {2, 1, Integer.MAX_VALUE},
            {0, 2, -1}, {0, 2, 2000}, {2, 2, Integer.MIN_VALUE}, {2, 2, Integer.MAX_VALUE}};
        for (int[] r : refused) {
            due(x.bend(0, r[0], r[1], r[2]), NO_SUCH);
        }
        statusIs(x, 0, refused.length, 0, 0);
        due(spelled(x, 0), "a=g/0:1:100/10:2:200/20:3:300");
        due(x.bend(0, 1, 0, 1), 10);
        due(x.bend(0, 1, 0, 19), 1);
        due(x.bend(0, 2, 0, 9999), 20);
        due(x.bend(0, 1, 0, 9998), 19);
        due(x.bend(0, 1, 0, 9999), NO_SUCH);
        due(x.bend(0, 0, 1, 0), 1);
        due(x.bend(0, 0, 1, 9999), 0);
        due(x.bend(0, 0, 2, 0), 100);
        due(x.bend(0, 0, 2, 1999), 0);
        statusIs(x, 0, refused.length + 1, 0, 0);
        // An AT that is not told is not told by NONE.
        x = desk("a=g/0:100;n=a");
        due(x.bend(0, 0, 1, NONE), NO_SUCH);
        statusIs(x, 0, 1, 0, 0);
        due(x.segment(0, 0, 1), NONE);
    }

    private static void bendSame() {
        sentence("Promise 21", "it is so (2).");
        PayPromise x = desk("a=g/0:0:0/10:2:200;n=a");
        due(x.bend(0, 1, 0, 10), NO_SUCH);
        due(x.bend(0, 1, 1, 2), NO_SUCH);
        due(x.bend(0, 1, 2, 200), NO_SUCH);
        due(x.bend(0, 0, 1, 0), NO_SUCH);
        due(x.bend(0, 0, 2, 0), NO_SUCH);
        statusIs(x, 0, 0, 5, 0);
        due(x.bend(0, 1, 0, 11), 10);
        due(x.bend(0, 1, 0, 11), NO_SUCH);
        due(x.bend(0, 1, 0, 10), 11);
        due(x.bend(0, 1, 1, 3), 2);
        due(x.bend(0, 1, 1, 2), 3);
        due(x.bend(0, 1, 2, 199), 200);
        due(x.bend(0, 1, 2, 200), 199);
        statusIs(x, 0, 0, 6, 0);
    }

    private static void benefit() {
        sentence("Promise 22", "The BENEFIT: as it was.");
        PayPromise x = desk("k5;a=k/0:1000;n=g-a");
        due(x.benefit(0), 5);
        due(x.at(-1, 9), 9 * UNIT);
        due(x.benefit(999), 0);
        due(x.rule(1), 999);
        due(x.at(-1, 9), -990 * UNIT);
        due(x.piece(0, 0, 2), 999 * UNIT);
        due(x.benefit(998), 999);
        due(desk("n=k").benefit(1), 0);
        statusIs(x, 0, 0, 0, 0);
    }

    private static void benefitRefused() {
        sentence("Promise 22", "NONE: no DESK (STATUS 0), not 0 .. 999 (1), it is so (2).");
        PayPromise x = new PayPromise();
        due(x.benefit(5), NONE);
        due(x.benefit(0), NONE);
        due(x.benefit(1000), NONE);
        statusIs(x, 3, 0, 0, 0);
        x = desk("k5;n=k");
        for (int none : new int[] {-1, 1000, Integer.MIN_VALUE, Integer.MAX_VALUE}) {
            due(x.benefit(none), NONE);
        }
        statusIs(x, 0, 4, 0, 0);
        due(x.rule(1), 5);
        due(x.benefit(5), NONE);
        statusIs(x, 0, 4, 1, 0);
        due(x.benefit(6), 5);
        due(x.benefit(6), NONE);
        due(x.benefit(5), 6);
        statusIs(x, 0, 4, 2, 0);
        x = desk("n=k");
        due(x.benefit(0), NONE);
        statusIs(x, 0, 0, 1, 0);
    }

    private static void month() {
        sentence("Promise 23", "A MONTH comes: PAID in it.");
        PayPromise x = desk(FROM_1200);
        due(x.month(99), 99 * UNIT);
        due(x.month(101), 81 * UNIT);
        due(x.month(99), 119 * UNIT);
        due(x.month(0), 0);
        due(x.rule(2), 4);
        due(desk(FROM_1200).month(9999), 9989 * UNIT);
        due(desk(FROM_1200).month(0), 0);
        x = desk(FROM_1200, 11, 0);
        due(x.month(1199), 1199 * UNIT);
        x.takeBack();
        due(x.month(1200), 1080 * UNIT);
    }

    private static void monthRefused() {
        sentence("Promise 23", "HIDDEN: no DESK (STATUS 0), no such WAGE (1), 12 MONTHS (3).");
        PayPromise x = new PayPromise();
        due(x.month(0), HIDDEN);
        due(x.month(-1), HIDDEN);
        statusIs(x, 2, 0, 0, 0);
        x = desk("n=g");
        for (int none : new int[] {-1, 10000, Integer.MIN_VALUE, Integer.MAX_VALUE}) {
            due(x.month(none), HIDDEN);
        }
        statusIs(x, 0, 4, 0, 0);
        due(x.rule(2), 0);
        x = desk("n=g", 11, 5);
        due(x.month(5), 5 * UNIT);
        due(x.month(5), HIDDEN);
        statusIs(x, 0, 0, 0, 1);
        due(x.rule(2), 12);
        due(x.month(10000), HIDDEN);
        statusIs(x, 0, 1, 0, 1);
        x.takeBack();
        due(x.month(6), 6 * UNIT);
        statusIs(x, 0, 1, 0, 1);
    }

    private static void takeBack() {
        sentence("Promise 24", "The latest MONTH is taken back: its WAGE.");
        PayPromise x = desk(FROM_1200);
        x.month(100);
        x.month(0);
        x.month(9999);
        due(x.takeBack(), 9999);
        due(x.rule(2), 2);
        due(x.year(2, 0), HIDDEN);
        due(x.takeBack(), 0);
        due(x.sofar(0), 100);
        due(x.year(0, 2), 10 * UNIT);
        due(x.takeBack(), 100);
        due(x.rule(2), 0);
        x = desk("n=g", 12, 7);
        due(x.takeBack(), 7);
        due(x.rule(2), 11);
        statusIs(x, 0, 0, 0, 0);
    }

    private static void takeBackRefused() {
        sentence("Promise 24", "NONE: no DESK, there is none (STATUS 0).");
        PayPromise x = new PayPromise();
        due(x.takeBack(), NONE);
        statusIs(x, 1, 0, 0, 0);
        x = desk("n=g");
        due(x.takeBack(), NONE);
        statusIs(x, 1, 0, 0, 0);
        x.month(3);
        due(x.takeBack(), 3);
        statusIs(x, 1, 0, 0, 0);
        due(x.takeBack(), NONE);
        statusIs(x, 2, 0, 0, 0);
        // MONTHS of another DESK are gone.
        x.month(3);
        tell(x, "n=g");
        x.desk();
        due(x.takeBack(), NONE);
        statusIs(x, 3, 0, 0, 0);
    }

    private static void year() {
        sentence("Promise 25", "Of the i-th MONTH (0 on): 0 its WAGE (units), 1 PAID in it, 2 DUE behind it.");
        PayPromise x = desk(FROM_1200);
        x.month(100);
        x.month(99);
        x.month(9999);
        due(x.year(0, 0), 100);
        due(x.year(0, 1), 90 * UNIT);
        due(x.year(0, 2), 10 * UNIT);
        due(x.year(1, 0), 99);
        due(x.year(1, 1), 109 * UNIT);
        due(x.year(1, 2), 0);
        due(x.year(2, 0), 9999);
        due(x.year(2, 1), 9969 * UNIT);
        due(x.year(2, 2), 30 * UNIT);
        due(desk(FROM_1200, 12, 100).year(11, 2), 120 * UNIT);
    }

    private static void yearRefused() {
        sentence("Promise 25", "HIDDEN: no such ones.");
        PayPromise x = desk(FROM_1200, 2, 100);
        for (int none : new int[] {-1, 2, Integer.MIN_VALUE, Integer.MAX_VALUE}) {
            due(x.year(none, 0), HIDDEN);
            due(x.year(none, 1), HIDDEN);
            due(x.year(none, 2), HIDDEN);
        }
        for (int none : new int[] {-1, 3, Integer.MIN_VALUE, Integer.MAX_VALUE}) {
            due(x.year(0, none), HIDDEN);
        }
        due(x.year(1, 2), 20 * UNIT);
        due(desk(FROM_1200).year(0, 0), HIDDEN);
        due(desk(FROM_1200, 12, 1).year(11, 0), 1);
        due(desk(FROM_1200, 12, 1).year(12, 0), HIDDEN);
        due(new PayPromise().year(0, 0), HIDDEN);
    }

    private static void sofar() {
        sentence("Promise 26", "All MONTHS: 0 WAGES (units), 1 PAID, 2 MONTHS in which PAID is more than the WAGE, 3 the one with"
            + " least PAID (of several the first; NONE without).");
        PayPromise x = desk(FROM_1200);
        due(x.sofar(0), 0);
        due(x.sofar(1), 0);
        due(x.sofar(2), 0);
        due(x.sofar(3), NONE);
        x.month(100);
        due(x.sofar(0), 100);
        due(x.sofar(1), 90 * UNIT);
        due(x.sofar(2), 0);
        due(x.sofar(3), 0);
        x.month(99);
        due(x.sofar(0), 199);
        due(x.sofar(1), 199 * UNIT);
        due(x.sofar(2), 1);
        due(x.sofar(3), 0);
        x.month(90);
        // PAID 90, 109, 90: the first of both; PAID that is the WAGE is not more.
        due(x.sofar(2), 1);
        due(x.sofar(3), 0);
        x.month(89);
        due(x.sofar(3), 3);
        due(x.sofar(0), 378);
        x = desk("k12;n=g+k", 12, 9999);
        due(x.sofar(0), 12 * 9999);
        due(x.sofar(1), (12 * 9999 + 12) * UNIT);
        due(x.sofar(2), 12);
        due(x.sofar(3), 0);
    }

    private static void sofarRefused() {
        sentence("Promise 26", "HIDDEN: no DESK, no such what.");
        PayPromise x = desk(FROM_1200, 1, 5);
        for (int none : new int[] {-1, 4, Integer.MIN_VALUE, Integer.MAX_VALUE}) {
            due(x.sofar(none), HIDDEN);
        }
        for (int what = 0; what <= 3; what++) {
            due(new PayPromise().sofar(what), HIDDEN);
        }
    }

    private static void nextMonth() {
        sentence("Promise 27", "NEXT MONTH.");
        PayPromise x = desk(FROM_1200, 1, 100);
        due(x.nextMonth(10 * UNIT), 0);
        due(x.nextMonth(10 * UNIT + 1), 1);
        due(x.nextMonth(109 * UNIT), 99);
        due(x.nextMonth(109 * UNIT + 1), 120);
        due(x.nextMonth(Long.MIN_VALUE), 0);
        due(x.rule(2), 1);
        // It is what the MONTH is paid, then.
        due(x.month(120), 110 * UNIT);
    }

    private static void nextMonthRefused() {
        sentence("Promise 27", "NONE: none, no DESK, 12 MONTHS.");
        PayPromise x = desk(FROM_1200);
        due(x.nextMonth(9989 * UNIT), 9999);
        due(x.nextMonth(9989 * UNIT + 1), NONE);
        due(x.nextMonth(Long.MAX_VALUE), NONE);
        due(desk("k12;n=g-g-k").nextMonth(-UNIT), 0);
        due(desk("k12;n=g-g-k").nextMonth(9_164_750_000_000L), 9999);
        due(desk("k12;n=g-g-k").nextMonth(9_164_750_000_001L), NONE);
        due(desk("n=g", 11, 5).nextMonth(0), 0);
        due(desk("n=g", 12, 5).nextMonth(0), NONE);
        due(desk("n=g", 12, 5).nextMonth(Long.MIN_VALUE), NONE);
        due(new PayPromise().nextMonth(0), NONE);
        due(new PayPromise().nextMonth(Long.MIN_VALUE), NONE);
    }

    private static void level() {
        sentence("Promise 28", "LEVEL.");
        PayPromise x = desk("n=g", 2, 50);
        due(x.level(100 * UNIT), 0);
        due(x.level(100 * UNIT + 1), 1);
        due(x.level(110 * UNIT), 1);
        due(x.level(110 * UNIT + 1), 2);
        due(x.level(Long.MIN_VALUE), 0);
        due(x.rule(2), 2);
        due(desk("n=g", 11, 50).level(551 * UNIT), 1);
    }

    private static void levelRefused() {
        sentence("Promise 28", "NONE: none, no DESK, 12 MONTHS.");
        PayPromise x = desk("n=g", 2, 50);
        due(x.level((100 + 99990) * UNIT), 9999);
        due(x.level((100 + 99990) * UNIT + 1), NONE);
        due(x.level(Long.MAX_VALUE), NONE);
        due(desk("n=g", 11, 0).level(9999 * UNIT), 9999);
        due(desk("n=g", 11, 0).level(9999 * UNIT + 1), NONE);
        due(desk("n=g", 12, 5).level(0), NONE);
        due(desk("n=g", 12, 5).level(Long.MIN_VALUE), NONE);
        due(new PayPromise().level(0), NONE);
        due(new PayPromise().level(Long.MIN_VALUE), NONE);
    }

    private static void dueAhead() {
        sentence("Promise 29", "DUE AHEAD.");
        PayPromise x = desk(FROM_1200);
        due(x.dueAhead(), 0);
        x.month(99);
        due(x.dueAhead(), 0);
        x.month(101);
        due(x.dueAhead(), 20 * UNIT);
        x.month(999);
        due(x.dueAhead(), 30 * UNIT);
        x.month(1);
        due(x.dueAhead(), -80 * UNIT);
        due(x.rule(2), 4);
        due(desk(FROM_1200, 12, 9999).dueAhead(), 0);
    }

    private static void dueAheadRefused() {
        sentence("Promise 29", "HIDDEN: no DESK.");
        due(new PayPromise().dueAhead(), HIDDEN);
        due(desk("n=g").dueAhead(), 0);
        due(desk("n=g", 12, 0).dueAhead(), 0);
    }
}
