/** Promises 14 to 20, sentence by sentence: the wage for a promised pay, cliffs, bits, jumps. */
final class EdgesOfPay extends Check {
    static void run() {
        promised();
        promisedRefused();
        exactly();
        exactlyRefused();
        cliff();
        cliffRefused();
        more();
        moreRefused();
        average();
        averageRefused();
        rate();
        rateRefused();
        jumps();
        jumpsRefused();
    }

    private static void promised() {
        sentence("Promise 14", "PROMISED: 0 how many WAGES, 1 the least at which it is no less, 2 the greatest at which it is no more,"
            + " 3 the NEAREST.");
        PayPromise x = desk(TWO_CLIFFS);
        due(x.promised(5 * UNIT, 0), 3);
        due(x.promised(5 * UNIT, 1), 5);
        due(x.promised(5 * UNIT, 2), 25);
        due(x.promised(5 * UNIT, 3), 5);
        due(x.promised(5 * UNIT + 1, 0), 0);
        due(x.promised(5 * UNIT + 1, 1), 6);
        due(x.promised(5 * UNIT + 1, 2), 25);
        due(x.promised(5 * UNIT + 1, 3), 5);
        due(x.promised(5 * UNIT - 1, 0), 0);
        due(x.promised(5 * UNIT - 1, 1), 5);
        due(x.promised(5 * UNIT - 1, 2), 24);
        due(x.promised(5 * UNIT - 1, 3), 4);
        // By rules as they are.
        x.bend(0, 1, 1, 0);
        due(x.promised(5 * UNIT, 0), 2);
    }

    private static void promisedRefused() {
        sentence("Promise 14", "NONE: none (of 1 to 3), no DESK, no such what.");
        PayPromise x = desk(TWO_CLIFFS);
        due(x.promised(9979 * UNIT, 1), 9999);
        due(x.promised(9979 * UNIT + 1, 1), NONE);
        due(x.promised(Long.MAX_VALUE, 1), NONE);
        due(x.promised(0, 2), 20);
        due(x.promised(-1, 2), NONE);
        due(x.promised(Long.MIN_VALUE, 2), NONE);
        due(x.promised(0, 3), 0);
        due(x.promised(-1, 3), NONE);
        due(x.promised(Long.MIN_VALUE, 3), NONE);
        // Of 0 there are none as well, and that is how many.
        due(x.promised(-1, 0), 0);
        due(x.promised(Long.MIN_VALUE, 0), 0);
        due(x.promised(Long.MAX_VALUE, 0), 0);
        due(x.promised(Long.MIN_VALUE, 1), 0);
        due(x.promised(Long.MAX_VALUE, 2), 9999);
        for (int none : new int[] {-1, 4, Integer.MIN_VALUE, Integer.MAX_VALUE}) {
            due(x.promised(5 * UNIT, none), NONE);
        }
        for (int what = 0; what <= 3; what++) {
            due(new PayPromise().promised(0, what), NONE);
        }
    }

    private static void exactly() {
        sentence("Promise 15", "PROMISED: the i-th WAGE by which it is paid.");
        PayPromise x = desk(TWO_CLIFFS);
        due(x.exactly(5 * UNIT, 0), 5);
        due(x.exactly(5 * UNIT, 1), 10);
        due(x.exactly(5 * UNIT, 2), 25);
        due(x.exactly(0, 0), 0);
        due(x.exactly(0, 1), 20);
        // A flat PIECE has several, WAGES ahead and behind it as well.
        x = desk("a=g/0:1000/5:0/8:1000/9:0:1000;n=a");
        due(x.exactly(5 * UNIT, 0), 5);
        due(x.exactly(5 * UNIT, 3), 8);
        due(x.exactly(5 * UNIT, 4), 14);
    }

    private static void exactlyRefused() {
        sentence("Promise 15", "NONE: no such one, no DESK.");
        PayPromise x = desk(TWO_CLIFFS);
        for (int none : new int[] {-1, 3, Integer.MIN_VALUE, Integer.MAX_VALUE}) {
            due(x.exactly(5 * UNIT, none), NONE);
        }
        due(x.exactly(5 * UNIT - 1, 0), NONE);
        due(x.exactly(5 * UNIT + 1, 0), NONE);
        due(x.exactly(-1, 0), NONE);
        due(x.exactly(Long.MIN_VALUE, 0), NONE);
        due(x.exactly(Long.MAX_VALUE, 0), NONE);
        due(x.exactly(9979 * UNIT, 0), 9999);
        due(x.exactly(9980 * UNIT, 0), NONE);
        due(desk("n=k").exactly(0, 9999), 9999);
        due(desk("n=k").exactly(0, 10000), NONE);
        due(desk("n=k").exactly(0, -1), NONE);
        due(new PayPromise().exactly(0, 0), NONE);
    }

    private static void cliff() {
        sentence("Promise 16", "The i-th CLIFF: 0 the WAGE, 1 by how much, 2 BACK (NONE: none is), 3 the TRAP.");
        PayPromise x = desk(TWO_CLIFFS);
        due(x.cliff(0, 0), 10);
        due(x.cliff(0, 1), 4 * UNIT);
        due(x.cliff(0, 2), 14);
        due(x.cliff(0, 3), 4);
        due(x.cliff(1, 0), 20);
        due(x.cliff(1, 1), 14 * UNIT);
        due(x.cliff(1, 2), 34);
        due(x.cliff(1, 3), 14);
        x = desk("a=g/0:0/9990:5000:0;n=g-a");
        due(x.cliff(0, 0), 9990);
        due(x.cliff(0, 1), 4999 * UNIT);
        due(x.cliff(0, 2), NONE);
        due(x.cliff(0, 3), 10);
        // CLIFFS that follow one another within a PIECE, between others.
        x = desk("a=g/0:0/5:3:0/10:3:1500/13:1;n=g-a");
        due(x.rule(5), 4);
        due(x.cliff(0, 0), 5);
        due(x.cliff(1, 0), 11);
        due(x.cliff(2, 0), 12);
        due(x.cliff(3, 0), 13);
        due(x.cliff(3, 1), UNIT / 2);
    }

    private static void cliffRefused() {
        sentence("Promise 16", "HIDDEN: no such ones.");
        PayPromise x = desk(TWO_CLIFFS);
        for (int none : new int[] {-1, 2, Integer.MIN_VALUE, Integer.MAX_VALUE}) {
            for (int what = 0; what <= 3; what++) {
                due(x.cliff(none, what), HIDDEN);
            }
        }
        for (int none : new int[] {-1, 4, Integer.MIN_VALUE, Integer.MAX_VALUE}) {
            due(x.cliff(0, none), HIDDEN);
        }
        due(desk("n=g").cliff(0, 0), HIDDEN);
        due(desk("n=-g").cliff(9998, 0), 9999);
        due(desk("n=-g").cliff(9999, 0), HIDDEN);
        due(new PayPromise().cliff(0, 0), HIDDEN);
    }

    private static void more() {
        sentence("Promise 17", "MORE (wage 0 .. 9998).");
        PayPromise x = desk("a=g/0:0/1:2:0/9999:5:0;n=g-a");
        due(x.more(0), -UNIT);
        due(x.more(1), UNIT);
        due(x.more(9997), UNIT);
        due(x.more(9998), -2 * UNIT);
    }

    private static void moreRefused() {
        sentence("Promise 17", "HIDDEN: no such one, no DESK.");
        PayPromise x = desk("n=g");
        for (int none : new int[] {-1, 9999, 10000, Integer.MIN_VALUE, Integer.MAX_VALUE}) {
            due(x.more(none), HIDDEN);
        }
        due(x.more(0), UNIT);
        due(x.more(9998), UNIT);
        due(new PayPromise().more(0), HIDDEN);
        due(new PayPromise().more(9998), HIDDEN);
    }

    private static void average() {
        sentence("Promise 18", "AVERAGE, bits.");
        PayPromise x = desk("a=g/0:0/1000:200;n=g-a");
        due(x.average(1), 0);
        due(x.average(1000), 0);
        due(x.average(1001), Double.doubleToLongBits(0.2e9 / 1001e9));
        due(x.average(2000), 4591870180066957722L);
        due(x.average(9999), Double.doubleToLongBits(1799.8e9 / 9999e9));
        due(desk("n=g+g").average(1), Double.doubleToLongBits(-1.0));
    }

    private static void averageRefused() {
        sentence("Promise 18", "HIDDEN: no such WAGE, no DESK.");
        PayPromise x = desk("n=k");
        for (int none : new int[] {-1, 10000, Integer.MIN_VALUE, Integer.MAX_VALUE}) {
            due(x.average(none), HIDDEN);
        }
        due(x.average(0) != HIDDEN, true);
        due(x.average(1), Double.doubleToLongBits(1.0));
        due(x.average(9999), Double.doubleToLongBits(1.0));
        due(new PayPromise().average(0), HIDDEN);
        due(new PayPromise().average(1), HIDDEN);
    }

    private static void rate() {
        sentence("Promise 19", "RATE of the i-th PIECE of PAID, bits.");
        PayPromise x = desk("a=g/0:0/1000:200/3000:400;n=g-a");
        due(x.rate(0), 0);
        due(x.rate(1), 1128792064);
        due(x.rate(2), Float.floatToIntBits(400f));
        x.bend(0, 2, 2, 200);
        due(x.rate(1), 1128792064);
        due(x.rate(2), NONE);
    }

    private static void rateRefused() {
        sentence("Promise 19", "NONE: no such one.");
        PayPromise x = desk("a=g/0:0/1000:200/3000:400;n=g-a");
        for (int none : new int[] {-1, 3, Integer.MIN_VALUE, Integer.MAX_VALUE}) {
            due(x.rate(none), NONE);
        }
        due(desk("n=g").rate(0), 0);
        due(desk("n=g").rate(1), NONE);
        due(new PayPromise().rate(0), NONE);
    }

    private static void jumps() {
        sentence("Promise 20", "JUMPS of an ACCOUNT (NONE: of PAID): how many.");
        PayPromise x = desk("a=g/0:0/10:5:0/20:9:0/30:2:0;b=g/0:0/10:500;n=a+b");
        due(x.jumps(0), 3);
        due(x.jumps(1), 0);
        due(x.jumps(-1), 3);
        x.bend(0, 3, 1, 9);
        due(x.jumps(0), 2);
        due(desk("n=g").jumps(-1), 0);
    }

    private static void jumpsRefused() {
        sentence("Promise 20", "NONE: no such one, no DESK.");
        PayPromise x = desk("a=g/0:0/10:5:0;n=g");
        for (int none : new int[] {-2, 1, Integer.MIN_VALUE, Integer.MAX_VALUE}) {
            due(x.jumps(none), NONE);
        }
        due(x.jumps(0), 1);
        due(x.jumps(-1), 0);
        due(new PayPromise().jumps(-1), NONE);
        due(new PayPromise().jumps(0), NONE);
    }
}
