/** The third part of the document's Terms, sentence by sentence: what is asked of PAID, of lines, of MONTHS. */
final class EdgesOfQuestions extends Check {
    private static final String SECTION = "Terms 3";

    /** A NANO for each WAGE. */
    private static final String NANOS = "a=g/0:1;b=a/0:1;c=b/0:1;";

    static void run() {
        promised();
        leastAndGreatest();
        nearest();
        cliffs();
        back();
        traps();
        more();
        steepest();
        flat();
        jumps();
        average();
        rate();
        which();
        ofSegment();
        nextMonth();
        level();
        dueAhead();
        would();
        both();
        without();
        raise();
        over();
        inKind();
        through();
        crossings();
        gap();
        kinks();
        until();
        free();
        putIn();
        spell();
    }

    private static void promised() {
        sentence(SECTION, "PROMISED an amount: by which WAGES PAID is it: how many, the i-th;");
        PayPromise x = desk(TWO_CLIFFS);
        due(x.promised(5 * UNIT - 1, 0), 0);
        due(x.promised(5 * UNIT, 0), 3);
        due(x.promised(5 * UNIT + 1, 0), 0);
        due(x.exactly(5 * UNIT, 0), 5);
        due(x.exactly(5 * UNIT, 1), 10);
        due(x.exactly(5 * UNIT, 2), 25);
        due(x.exactly(5 * UNIT, 3), NONE);
        due(x.promised(4 * UNIT, 0), 2);
        due(x.promised(14 * UNIT, 0), 2);
        due(x.exactly(14 * UNIT, 0), 19);
        due(x.exactly(14 * UNIT, 1), 34);
        due(x.promised(15 * UNIT, 0), 1);
        due(x.exactly(9979 * UNIT, 0), 9999);
        due(x.promised(9980 * UNIT, 0), 0);
        x = desk("k7;n=k");
        due(x.promised(7 * UNIT, 0), 10000);
        due(x.exactly(7 * UNIT, 0), 0);
        due(x.exactly(7 * UNIT, 9999), 9999);
        due(x.exactly(7 * UNIT, 10000), NONE);
        // PAID is 1, 4, 7 ..: amounts in between are by none.
        x = desk("k1;n=g+g+g+k");
        due(x.promised(UNIT, 0), 1);
        due(x.promised(2 * UNIT, 0), 0);
        due(x.promised(4 * UNIT, 0), 1);
        due(x.promised(5 * UNIT, 0), 0);
        due(x.exactly(4 * UNIT, 0), 1);
        x = desk(TEETH);
        due(x.promised(49 * UNIT, 0), 180);
        due(x.promised(50 * UNIT, 0), 1);
        due(x.exactly(7 * UNIT, 0), 7);
        due(x.exactly(7 * UNIT, 100), 5007);
        due(x.exactly(7 * UNIT, 179), 8957);
        due(x.exactly(7 * UNIT, 180), NONE);
        // A line that falls, and steps that leap over an amount.
        x = desk("n=-g-g");
        due(x.promised(-4 * UNIT, 0), 1);
        due(x.exactly(-4 * UNIT, 0), 2);
        due(x.promised(-5 * UNIT, 0), 0);
        due(x.exactly(-19998 * UNIT, 0), 9999);
    }

    private static void leastAndGreatest() {
        sentence(SECTION, "the least WAGE at which PAID is no less; the greatest at which it is no more;");
        PayPromise x = desk(NANOS + "n=c");
        due(x.promised(5, 1), 5);
        due(x.promised(5, 2), 5);
        due(x.promised(9999, 1), 9999);
        due(x.promised(10000, 1), NONE);
        due(x.promised(0, 2), 0);
        x = desk(TWO_CLIFFS);
        due(x.promised(9 * UNIT - 1, 1), 9);
        due(x.promised(9 * UNIT, 1), 9);
        due(x.promised(9 * UNIT + 1, 1), 15);
        due(x.promised(14 * UNIT, 1), 19);
        due(x.promised(14 * UNIT + 1, 1), 35);
        due(x.promised(9979 * UNIT, 1), 9999);
        due(x.promised(9979 * UNIT + 1, 1), NONE);
        due(x.promised(0, 1), 0);
        due(x.promised(14 * UNIT, 2), 34);
        due(x.promised(14 * UNIT - 1, 2), 33);
        due(x.promised(0, 2), 20);
        due(x.promised(-1, 2), NONE);
        due(x.promised(9979 * UNIT - 1, 2), 9998);
        due(x.promised(9979 * UNIT, 2), 9999);
        x = desk("n=-g");
        due(x.promised(0, 1), 0);
        due(x.promised(1, 1), NONE);
        due(x.promised(-1, 2), 9999);
        due(x.promised(-9999 * UNIT, 2), 9999);
        due(x.promised(-9999 * UNIT - 1, 2), NONE);
    }

    private static void nearest() {
        sentence(SECTION, "the NEAREST: of all WAGES at which PAID is no more that at which it is most, of several the lowest.");
        PayPromise x = desk(TWO_CLIFFS);
        due(x.promised(9 * UNIT, 3), 9);
        due(x.promised(9 * UNIT - 1, 3), 8);
        due(x.promised(9 * UNIT + 1, 3), 9);
        due(x.promised(10 * UNIT, 3), 15);
        due(x.promised(14 * UNIT + 1, 3), 19);
        due(x.promised(15 * UNIT - 1, 3), 19);
        due(x.promised(15 * UNIT, 3), 35);
        due(x.promised(0, 3), 0);
        due(x.promised(-1, 3), NONE);
        due(x.promised(Long.MAX_VALUE, 3), 9999);
        x = desk("n=-g");
        due(x.promised(1, 3), 0);
        due(x.promised(0, 3), 0);
        due(x.promised(-1, 3), 1);
        due(x.promised(-UNIT, 3), 1);
        due(x.promised(-UNIT - 1, 3), 2);
        due(x.promised(-9999 * UNIT, 3), 9999);
        due(x.promised(-9999 * UNIT - 1, 3), NONE);
        x = desk(NANOS + "n=c");
        due(x.promised(5, 3), 5);
        due(x.promised(-1, 3), NONE);
        x = desk(NANOS + "n=-c");
        due(x.promised(-5, 3), 5);
        due(x.promised(-10000, 3), NONE);
        x = desk(TEETH);
        due(x.promised(50 * UNIT - 1, 3), 49);
        due(x.promised(50 * UNIT, 3), 9000);
        due(desk("k7;n=k").promised(7 * UNIT, 3), 0);
        due(desk("k7;n=k").promised(7 * UNIT - 1, 3), NONE);
        // PAID rises by 2 to 20 at 10, then falls by 1.999: it is 16 at 8, 16.002 at 12.
        x = desk("a=g+g+g/0:0/30:1333;n=g+g-a");
        due(x.promised(16 * UNIT, 3), 8);
        due(x.promised(16_002_000_000L - 1, 3), 8);
        due(x.promised(16_002_000_000L, 3), 12);
        due(x.promised(17 * UNIT, 3), 12);
        due(x.promised(18 * UNIT, 3), 9);
    }

    private static void cliffs() {
        sentence(SECTION, "A CLIFF: a WAGE above 0 at which PAID is less than at the one ahead: by how much;");
        PayPromise x = desk(TWO_CLIFFS);
        due(x.rule(5), 2);
        due(x.cliff(0, 0), 10);
        due(x.cliff(0, 1), 4 * UNIT);
        due(x.cliff(1, 0), 20);
        due(x.cliff(1, 1), 14 * UNIT);
        due(x.cliff(2, 0), HIDDEN);
        // PAID that stays is no CLIFF, one NANO less is one.
        due(desk("k5;n=k").rule(5), 0);
        x = desk("a=g/0:1;b=a/0:1;c=b/0:1;n=-c");
        due(x.rule(5), 9999);
        due(x.cliff(0, 0), 1);
        due(x.cliff(0, 1), 1);
        due(x.cliff(9998, 0), 9999);
        due(x.cliff(9998, 1), 1);
        due(x.cliff(9999, 0), HIDDEN);
        due(desk("a=g/0:0/1:2:0;n=-a").cliff(0, 0), 1);
        due(desk("a=g/0:0/9999:2:0;n=-a").cliff(0, 0), 9999);
        x = desk(TEETH);
        due(x.rule(5), 179);
        for (int i = 0; i < 179; i++) {
            due(x.cliff(i, 0), 50 * i + 50);
            due(x.cliff(i, 1), 49 * UNIT);
        }
        due(x.cliff(179, 0), HIDDEN);
        // A fall by one step, by two steps, and a rise behind it.
        x = desk("a=g/0:0/5:1999/7:0:0;n=g-a");
        due(x.rule(5), 1);
        due(x.cliff(0, 0), 6);
        due(x.cliff(0, 1), 999_000_000L);
        x = desk("a=g/0:0/5:1999/8:0:0;n=g-a");
        due(x.rule(5), 2);
        due(x.cliff(0, 0), 6);
        due(x.cliff(1, 0), 7);
        due(x.cliff(1, 1), 999_000_000L);
    }

    private static void back() {
        sentence(SECTION, "BACK: the first WAGE above it at which PAID is no less than ahead of it;");
        PayPromise x = desk(TWO_CLIFFS);
        due(x.cliff(0, 2), 14);
        due(x.cliff(1, 2), 34);
        // PAID is 9,994 ahead of 9,995; at 9,999 it is 9,994 again, or just not.
        due(desk("a=g/0:0/9995:4:0;n=g-a").cliff(0, 2), 9998);
        due(desk("a=g/0:0/9995:5:0;n=g-a").cliff(0, 2), 9999);
        due(desk("a=g/0:0/9995:6:0;n=g-a").cliff(0, 2), NONE);
        // Back at once: 5, 4, 5; back by a leap.
        due(desk("a=g/0:0/6:2:0;n=g-a").cliff(0, 2), 7);
        due(desk("a=g/0:0/6:9:0/7:0:0;n=g-a").cliff(0, 2), 7);
        due(desk("a=g/0:0/9999:2:0;n=g-a").cliff(0, 2), NONE);
        due(desk("n=-g").cliff(0, 2), NONE);
    }

    private static void traps() {
        sentence(SECTION, "a TRAP: how many WAGES from the CLIFF on are below that (to 9,999, if none is BACK).");
        PayPromise x = desk(TWO_CLIFFS);
        due(x.cliff(0, 3), 4);
        due(x.cliff(1, 3), 14);
        due(desk("a=g/0:0/6:2:0;n=g-a").cliff(0, 3), 1);
        due(desk("a=g/0:0/9995:4:0;n=g-a").cliff(0, 3), 3);
        due(desk("a=g/0:0/9995:5:0;n=g-a").cliff(0, 3), 4);
        due(desk("a=g/0:0/9995:6:0;n=g-a").cliff(0, 3), 5);
        due(desk("a=g/0:0/9999:2:0;n=g-a").cliff(0, 3), 1);
        due(desk("n=-g").cliff(0, 3), 9999);
        due(desk("n=-g").cliff(9998, 3), 1);
        due(desk(TEETH).cliff(178, 3), 49);
        due(desk(TEETH).most(7), 179 * 49);
    }

    private static void more() {
        sentence(SECTION, "MORE at a WAGE: what one more brings, of PAID.");
        PayPromise x = desk(TWO_CLIFFS);
        due(x.more(0), UNIT);
        due(x.more(8), UNIT);
        due(x.more(9), -4 * UNIT);
        due(x.more(10), UNIT);
        due(x.more(9998), UNIT);
        due(x.more(9999), HIDDEN);
    }

    private static void steepest() {
        sentence(SECTION, "STEEPEST: the WAGE (to 9,998) at which MORE is least (of several the lowest).");
        due(desk(TWO_CLIFFS).most(4), 19);
        due(desk("n=g").most(4), 0);
        due(desk("n=-g").most(4), 0);
        due(desk("a=g/0:0/9999:2:0;n=g-a").most(4), 9998);
        due(desk("a=g/0:0/9998:2:0;n=g-a").most(4), 9997);
        due(desk("a=g/0:0/1:2:0;n=g-a").most(4), 0);
        due(desk("a=g/0:0/10:2:0/20:4:0;n=g-a").most(4), 9);
        due(desk("a=g/0:0/10:2:0/20:5:0;n=g-a").most(4), 19);
        due(desk("a=g/0:0/10:500;n=g-a").most(4), 10);
        due(desk("a=g/0:500/10:0;n=g-a").most(4), 0);
        // Leaps upwards between PIECES that bring 1, a half, 0.7.
        due(desk("a=g/0:1000/10:20:500/20:40:700;n=a").most(4), 10);
        due(desk("a=g/0:1000/10:20:500/20:40:400;n=a").most(4), 20);
        // The last PIECE has one WAGE: it brings nothing, but MORE ends at 9,998.
        due(desk("a=g/0:1000/9999:5:0;n=g+a").most(4), 9998);
        due(desk("a=g/0:0/9999:5:0;n=g+a").most(4), 0);
    }

    private static void flat() {
        sentence(SECTION, "FLAT: how many PIECES of PAID bring nothing with each WAGE more, of two WAGES at least.");
        due(desk("n=g").most(5), 0);
        due(desk("n=k").most(5), 1);
        // A step that brings nothing is within no PIECE, two WAGES of one are.
        due(desk("a=g/0:1000/5:0/6:1000;n=a").most(5), 0);
        due(desk("a=g/0:1000/5:0/7:1000;n=a").most(5), 1);
        due(desk("a=g/0:1000/5:0/7:1000/9:0/11:1000;n=a").most(5), 2);
        due(desk("a=g/0:1000/9997:0;n=a").most(5), 1);
        due(desk("a=g/0:1000/9998:0;n=a").most(5), 0);
        due(desk("a=g/0:1000/9999:5:0;n=a").most(5), 0);
        due(desk("a=g/0:0/1:1000;n=a").most(5), 1);
        due(desk("a=g/0:0/1:5:1000;n=a").most(5), 0);
    }

    private static void jumps() {
        sentence(SECTION, "JUMPS of a line: WAGES above 0 that begin a PIECE, and at which what the WAGE ahead brings to here is"
            + " neither what the PIECE ahead brings nor what this one does (a PIECE of one WAGE brings 0).");
        due(jumps("n=g"), 0);
        due(jumps("a=g/0:0/10:500;n=a"), 0);
        due(jumps("a=g/0:0/10:5:0;n=a"), 1);
        due(jumps("a=g/0:0/10:5:500;n=a"), 1);
        // It jumps by what the PIECE behind it brings: from 0 to 1, then by 1 each.
        due(jumps("a=g/0:0/10:1:1000;n=a"), 0);
        due(jumps("a=g/0:0/10:2:1000;n=a"), 1);
        // It jumps by what the PIECE ahead brings: then it belongs to that one.
        due(jumps("a=g/0:1000/10:10:0;n=a"), 0);
        due(jumps("a=g/0:1000/10:11:0;n=a"), 1);
        // To 1 it jumps within the first PIECE; to 2 it does not.
        due(jumps("a=g/0:0/1:5:0;n=a"), 0);
        due(jumps("a=g/0:0/2:5:0;n=a"), 1);
        // A flat step of one WAGE between 1 and 1.
        due(jumps("a=g/0:1000/5:0/6:1000;n=a"), 1);
        due(jumps("a=g/0:1000/5:0/7:1000;n=a"), 0);
        // The last WAGE is a PIECE of its own, which brings 0: a step of 0 is no jump, another one is.
        due(jumps("a=g/0:1000/9998:0;n=a"), 0);
        due(jumps("a=g/0:1000/9998:500;n=a"), 1);
        due(jumps("a=g/0:1000/9999:3:0;n=a"), 1);
        due(jumps("a=g/0:0/10:5:0/20:9:0;n=a"), 2);
    }

    /** Of an ACCOUNT and of PAID, which is the same line. */
    private static int jumps(String text) {
        PayPromise x = desk(text);
        if (x.rule(0) > 0) {
            due(x.jumps(0), x.jumps(-1));
        }
        return x.jumps(-1);
    }

    private static void average() {
        sentence(SECTION, "AVERAGE at a WAGE: KEPT (as a double) by the WAGE in NANOS (as a double), as a double (bits).");
        PayPromise x = desk("a=g/0:0/10:333/20:7:1999;n=g-a");
        for (int wage : new int[] {1, 9, 10, 11, 19, 20, 21, 3000, 9998, 9999}) {
            due(x.average(wage), Double.doubleToLongBits((double) x.kept(wage) / (double) (wage * UNIT)));
        }
        due(x.average(10), 0);
        due(x.average(11), Double.doubleToLongBits(0.333e9 / 11e9));
        // The least that may be KEPT and the greatest, on both sides of 0.
        due(desk("a=g/0:1;b=a/0:1;c=b/0:1;n=g-c").average(1), Double.doubleToLongBits(1e-9));
        due(desk("a=g/0:1;b=a/0:1;c=b/0:1;n=g+c").average(1), Double.doubleToLongBits(-1e-9));
        due(desk("n=g-g").average(9999), Double.doubleToLongBits(1.0));
        due(desk("n=g+g").average(9999), Double.doubleToLongBits(-1.0));
        String steep = "a=g+g+g+g+g+g/0:1999;b=a+a+a+a+a+a/0:1999;c=b+b+b+b+b+b/0:9999:1999;n=";
        PayPromise high = desk(steep + "c+c+c+c+c+c");
        due(high.average(1), Double.doubleToLongBits((double) high.kept(1) / 1e9));
        due(high.average(7), Double.doubleToLongBits((double) high.kept(7) / 7e9));
        PayPromise low = desk(steep + "-c-c-c-c-c-c");
        due(low.average(1), Double.doubleToLongBits((double) low.kept(1) / 1e9));
        // WAGE 0: what Java's division of doubles by 0 is.
        due(desk("n=g").average(0), 0x7ff8000000000000L);
        due(desk("k1;n=k").average(0), 0xfff0000000000000L);
        due(desk("k1;n=-k").average(0), 0x7ff0000000000000L);
    }

    private static void rate() {
        sentence(SECTION, "RATE of a PIECE of PAID: what one more WAGE is KEPT of, in thousandths"
            + " (a float: NANOS KEPT by 1,000,000, bits).");
        due(desk("n=g").rate(0), Float.floatToIntBits(0f));
        due(desk("n=k").rate(0), Float.floatToIntBits(1000f));
        due(desk("n=g+g").rate(0), Float.floatToIntBits(-1000f));
        due(desk("n=-g").rate(0), Float.floatToIntBits(2000f));
        PayPromise x = desk("a=g/0:1/10:999/20:1000/30:1001/40:1999;n=g-a");
        due(x.rate(0), Float.floatToIntBits(1f));
        due(x.rate(1), Float.floatToIntBits(999f));
        due(x.rate(2), Float.floatToIntBits(1000f));
        due(x.rate(3), Float.floatToIntBits(1001f));
        // 1,999,000,000 is no float: it is made one first, and divided then.
        due(x.rate(4), Float.floatToIntBits(1999.0001f));
        // A NANO, and what a float cannot hold without rounding.
        due(desk("a=g/0:1;b=a/0:1;c=b/0:1;n=g-c").rate(0), Float.floatToIntBits(1f / 1e6f));
        due(desk("a=g/0:1;b=a/0:1;c=b/0:1;n=g+c").rate(0), Float.floatToIntBits(-1f / 1e6f));
        due(desk("a=g/0:333;b=a/0:777;c=b/0:991;n=c").rate(0),
            Float.floatToIntBits((float) (UNIT - 333L * 777 * 991) / 1e6f));
        // The last WAGE alone brings 0, so all of one more is KEPT.
        due(desk("a=g/0:1000/9999:3:0;n=a").rate(1), Float.floatToIntBits(1000f));
    }

    private static void which() {
        sentence(SECTION, "WHICH SEGMENT of an ACCOUNT is at a WAGE.");
        PayPromise x = desk("k2;a=g-k/0:0/1:0/5:0/9997:0;n=a");
        due(x.which(0, 0), 0);
        due(x.which(0, 2), 0);
        due(x.which(0, 3), 1);
        due(x.which(0, 6), 1);
        due(x.which(0, 7), 2);
        due(x.which(0, 8), 2);
        due(x.which(0, 9998), 2);
        due(x.which(0, 9999), 3);
    }

    private static void ofSegment() {
        sentence(SECTION, "OF a SEGMENT: WAGES at which it is that (how many).");
        PayPromise x = desk("k2;a=g-k/0:0/1:0/5:0/9997:0/9998:0;b=k/0:0/2:0/3:0;n=a");
        due(x.segment(0, 0, 3), 3);
        due(x.segment(0, 1, 3), 4);
        due(x.segment(0, 2, 3), 9992);
        due(x.segment(0, 3, 3), 1);
        due(x.segment(0, 4, 3), 0);
        due(x.segment(1, 0, 3), 0);
        due(x.segment(1, 1, 3), 10000);
        due(x.segment(1, 2, 3), 0);
        // A SUM that falls, and one that comes back: WAGES of both times count.
        x = desk("a=g/0:0/10:0:1000/20:0;b=a/0:0/5:0;n=a");
        due(x.segment(1, 1, 3), 9999 - 15 + 1);
        x = desk("a=g/0:1000/10:0:0;b=a/0:0/5:0/9:0;n=a");
        due(x.segment(1, 0, 3), 5 + 9990);
        due(x.segment(1, 1, 3), 4);
        due(x.segment(1, 2, 3), 1);
    }

    private static void nextMonth() {
        sentence(SECTION, "NEXT MONTH: by which WAGE (the least) PAID in it would be no less than promised.");
        PayPromise x = desk(FROM_1200);
        due(x.nextMonth(99 * UNIT - 1), 99);
        due(x.nextMonth(99 * UNIT), 99);
        due(x.nextMonth(99 * UNIT + 1), 110);
        due(x.nextMonth(9989 * UNIT), 9999);
        due(x.nextMonth(9989 * UNIT + 1), NONE);
        due(x.nextMonth(0), 0);
        x.month(100);
        // DUE 10 is given back below 200 in all: 109 by 99, then less.
        due(x.nextMonth(109 * UNIT), 99);
        due(x.nextMonth(109 * UNIT + 1), 120);
        due(x.rule(2), 1);
        x = desk(FROM_1200, 11, 0);
        due(x.nextMonth(1199 * UNIT), 1199);
        due(x.nextMonth(1199 * UNIT + 1), 1320);
    }

    private static void level() {
        sentence(SECTION, "LEVEL: by which WAGE (the least) in each of the MONTHS still to come PAID of all 12 would be"
            + " no less than promised.");
        PayPromise x = desk(FROM_1200);
        due(x.level(1188 * UNIT), 99);
        due(x.level(1188 * UNIT + 1), 110);
        due(x.level(1200 * UNIT), 110);
        due(x.level(1200 * UNIT + 1), 111);
        due(x.level((12 * 9999 - 120) * UNIT), 9999);
        due(x.level((12 * 9999 - 120) * UNIT + 1), NONE);
        due(x.level(0), 0);
        x = desk(FROM_1200, 11, 100);
        due(x.level(1199 * UNIT), 99);
        due(x.level(1199 * UNIT + 1), 220);
        due(x.rule(2), 11);
        due(desk(FROM_1200, 12, 0).level(0), NONE);
    }

    private static void dueAhead() {
        sentence(SECTION, "DUE AHEAD: were no more WAGES to come, what DUE behind all 12 MONTHS would be less than behind those"
            + " that were (of it that is given back; below 0: more).");
        due(desk(FROM_1200).dueAhead(), 0);
        due(desk("k12;n=g-k").dueAhead(), -12 * UNIT);
        due(desk("k12;n=g+k").dueAhead(), 12 * UNIT);
        due(desk(FROM_1200, 1, 99).dueAhead(), 0);
        due(desk(FROM_1200, 1, 100).dueAhead(), 10 * UNIT);
        due(desk(FROM_1200, 1, 1199).dueAhead(), 10 * UNIT);
        due(desk(FROM_1200, 1, 1200).dueAhead(), -110 * UNIT);
        // 1,199 and 1,210 in all: behind 11 MONTHS 110 are DUE, behind 12 nothing or 120.
        due(desk(FROM_1200, 11, 109).dueAhead(), 110 * UNIT);
        due(desk(FROM_1200, 11, 110).dueAhead(), -10 * UNIT);
        due(desk(FROM_1200, 11, 1000).dueAhead(), -10 * UNIT);
        due(desk(FROM_1200, 12, 1000).dueAhead(), 0);
    }

    private static void would() {
        sentence(SECTION, "WOULD a SLOPE be another one: PAID at a WAGE.");
        PayPromise x = desk("a=g/0:100/10:200/20:5:300;n=a");
        due(x.would(0, 0, 1000, 10), 10 * UNIT);
        due(x.would(0, 0, 1000, 11), 10_200_000_000L);
        due(x.would(0, 0, 1000, 19), 11_800_000_000L);
        due(x.would(0, 0, 1000, 20), 5 * UNIT);
        due(x.would(0, 1, 0, 10), UNIT);
        due(x.would(0, 1, 0, 19), UNIT);
        due(x.would(0, 1, 0, 20), 5 * UNIT);
        due(x.would(0, 2, 0, 21), 5 * UNIT);
        due(x.would(0, 2, 1999, 21), 6_999_000_000L);
        due(x.would(0, 0, 100, 19), x.at(-1, 19));
        x.would(0, 0, 1999, 19);
        due(x.at(0, 19), 2_800_000_000L);
        // Nothing is bent by asking.
        due(spelled(x, 0), "a=g/0:100/10:200/20:5:300");
        due(x.at(0, 19), 2_800_000_000L);
        statusIs(x, 0, 0, 0, 0);
    }

    private static void both() {
        sentence(SECTION, "BOTH of two WAGES as MONTHS, one behind the other, the first ones of a YEAR: PAID in both together.");
        PayPromise x = desk(FROM_1200);
        due(x.both(100, 99), 199 * UNIT);
        due(x.both(99, 100), 199 * UNIT);
        due(x.both(100, 100), 180 * UNIT);
        due(x.both(199, 0), 199 * UNIT);
        due(x.both(0, 200), 180 * UNIT);
        due(x.both(0, 0), 0);
        due(x.both(9999, 9999), 19978 * UNIT);
        // MONTHS that were do not count.
        x.month(5000);
        x.month(5000);
        x.month(5000);
        due(x.both(100, 99), 199 * UNIT);
        due(x.rule(2), 3);
        PayPromise full = desk(FROM_1200, 12, 1);
        due(full.both(100, 99), 199 * UNIT);
        // Cut once, behind both: a sixth of -1.
        due(desk("k1;n=g+k").both(0, 0), 166_666_667L);
    }

    private static void without() {
        sentence(SECTION, "WITHOUT an ACCOUNT: PAID at a WAGE, were that 0 at all WAGES (wherever it is a TERM).");
        PayPromise x = desk("a=g/0:9:0;b=a+g/0:4:1000;c=b-a/0:1000;n=g-a+b-c-a");
        // At 6: a 9, b 4 + 15 = 19, c 10: 6 - 9 + 19 - 10 - 9.
        due(x.at(-1, 6), -3 * UNIT);
        // Without a: b 4 + 6, c 10; 6 + 10 - 10.
        due(x.without(0, 6), 6 * UNIT);
        // Without b: c 0; 6 - 9 - 9. AT of b is gone, too.
        due(x.without(1, 6), -12 * UNIT);
        due(x.without(2, 6), 7 * UNIT);
        due(x.without(0, 0), 0);
        due(x.without(0, 9999), 9999 * UNIT);
        due(x.at(-1, 6), -3 * UNIT);
        due(x.at(0, 6), 9 * UNIT);
    }

    private static void raise() {
        sentence(SECTION, "RAISE of a WAGE: the least one not below it at which PAID is at least so much (NANOS, 0 and more)"
            + " above what it is at that.");
        PayPromise x = desk(TWO_CLIFFS);
        due(x.raise(5, -1), NONE);
        due(x.raise(5, 0), 5);
        due(x.raise(5, 1), 6);
        due(x.raise(5, 4 * UNIT), 9);
        due(x.raise(5, 4 * UNIT + 1), 15);
        due(x.raise(5, 9 * UNIT), 19);
        due(x.raise(5, 9 * UNIT + 1), 35);
        due(x.raise(9, UNIT), 15);
        due(x.raise(10, 0), 10);
        due(x.raise(19, 0), 19);
        due(x.raise(19, 1), 35);
        due(x.raise(20, 1), 21);
        due(x.raise(0, 9979 * UNIT), 9999);
        due(x.raise(0, 9979 * UNIT + 1), NONE);
        due(x.raise(9998, UNIT), 9999);
        due(x.raise(9998, UNIT + 1), NONE);
        due(x.raise(9999, 0), 9999);
        due(x.raise(9999, 1), NONE);
        due(x.raise(0, Long.MAX_VALUE), NONE);
        due(x.raise(0, Long.MIN_VALUE), NONE);
    }

    private static void over() {
        sentence(SECTION, "OVER: the first WAGE from one on at which an ACCOUNT is no less than another one (NONE: PAID).");
        // a is 5, b is the WAGE to 9 and nothing from 10 on; PAID is b less a.
        PayPromise x = desk("a=g/0:5:0;b=g/0:1000/10:0:0;n=b-a");
        due(x.over(0, 1, 0), 0);
        due(x.over(0, 1, 5), 5);
        due(x.over(0, 1, 6), 10);
        due(x.over(1, 0, 0), 5);
        due(x.over(1, 0, 4), 5);
        due(x.over(1, 0, 5), 5);
        due(x.over(1, 0, 9), 9);
        due(x.over(1, 0, 10), NONE);
        due(x.over(-1, 0, 0), NONE);
        due(x.over(0, -1, 9999), 9999);
        due(x.over(-1, 1, 0), NONE);
        due(x.over(1, -1, 3), 3);
        due(x.over(-1, -1, 9999), 9999);
        x = desk(TEETH);
        due(x.over(2, 3, 0), 49);
        due(x.over(2, 3, 50), 99);
        due(x.over(-1, 3, 4950), 4999);
        due(x.over(3, 2, 9000), NONE);
        due(x.over(3, 2, 8950), 8950);
        // A leap at the last WAGE.
        x = desk("a=g/0:5:0;b=g/0:0/9999:5:0;n=b-a");
        due(x.over(1, 0, 0), 9999);
        due(x.over(1, 0, 9999), 9999);
        x = desk("a=g/0:5:0;b=g/0:0/9999:4:1999;n=b-a");
        due(x.over(1, 0, 0), NONE);
    }

    private static void inKind() {
        sentence(SECTION, "IN KIND at a WAGE: the greatest BENEFIT (0 .. 999) by which PAID would be no less than promised.");
        PayPromise x = desk("k3;n=g-k");
        due(x.inKind(-989 * UNIT, 10), 999);
        due(x.inKind(-989 * UNIT + 1, 10), 998);
        due(x.inKind(0, 10), 10);
        due(x.inKind(9 * UNIT, 10), 1);
        due(x.inKind(10 * UNIT, 10), 0);
        due(x.inKind(10 * UNIT + 1, 10), NONE);
        due(x.inKind(Long.MIN_VALUE, 10), 999);
        due(x.inKind(Long.MAX_VALUE, 10), NONE);
        due(x.rule(1), 3);
        due(x.at(-1, 10), 7 * UNIT);
        // PAID rises and falls by it: the greatest counts, not the first.
        x = desk("a=k/0:1000/10:0:0/500:7:0;n=a");
        due(x.inKind(5 * UNIT, 0), 999);
        due(x.inKind(7 * UNIT, 0), 999);
        due(x.inKind(7 * UNIT + 1, 0), 9);
        due(x.inKind(9 * UNIT + 1, 0), NONE);
        due(desk("n=g").inKind(5 * UNIT, 5), 999);
        due(desk("n=g").inKind(5 * UNIT + 1, 5), NONE);
    }

    private static void through() {
        sentence(SECTION, "THROUGH an ACCOUNT at a WAGE (to 9,998): what one more WAGE brings of PAID, less what it would, were that"
            + " ACCOUNT at the next WAGE as it is at this one (wherever it is a TERM).");
        // a rises by half of it from 10 on; b is a, and 5 more from 10 on.
        PayPromise x = desk("a=g/0:0/10:500;b=a/0:0/1:5:1000;n=g-a-b");
        due(x.through(0, 0), 0);
        due(x.through(0, 9), 0);
        due(x.through(0, 10), -UNIT / 2);
        // At 12 a is 1: b comes to be 5; held at 0.5 it would stay 0.
        due(x.at(1, 11), 0);
        due(x.at(1, 12), 5 * UNIT);
        due(x.through(0, 11), -UNIT / 2 - 5 * UNIT);
        due(x.through(1, 11), -5 * UNIT);
        due(x.through(1, 10), 0);
        due(x.through(0, 12), -UNIT);
        due(x.through(1, 12), -UNIT / 2);
        due(x.through(0, 9998), -UNIT);
        due(x.through(0, 9999), HIDDEN);
        // One that PAID and its TERMS do not have.
        due(desk("a=g/0:1000;n=g").through(0, 5), 0);
    }

    private static void crossings() {
        sentence(SECTION, "CROSSINGS of two lines: WAGES above 0 at which their difference (the first less the other one) is"
            + " below 0, 0, above 0, and is another one of these at the WAGE ahead;");
        // b less a: -5 .. -1 to 4, 0 at 5, above to 9, below from 10 on.
        PayPromise x = desk("a=g/0:5:0;b=g/0:1000/10:0:0;n=b-a");
        due(x.crossings(1, 0, 0), 3);
        due(x.crossings(0, 1, 0), 3);
        due(x.crossings(0, 0, 0), 0);
        due(x.crossings(-1, -1, 0), 0);
        due(x.crossings(1, -1, 0), 0);
        // A NANO above 0 from WAGE 1 on.
        x = desk("a=g/0:1/1:0;b=a/0:1;c=b/0:1;d=k/0:0;n=c");
        due(x.crossings(2, 3, 0), 1);
        due(x.crossings(3, 2, 0), 1);
        // Teeth from 0 to 49 less 49: 0 at the top of each, below 0 else; above 0 at the end.
        due(desk(TEETH).crossings(2, 3, 0), 2 * 179 + 2);
        due(desk(TEETH).crossings(3, -1, 0), 2 * 179 + 2);
        // From 0 to above 0 at WAGE 1; what it is at WAGE 0 is no CROSSING.
        due(desk("a=g/0:0;n=g").crossings(-1, 0, 0), 1);
        due(desk("a=g/0:1:0;n=g").crossings(-1, 0, 0), 2);
        due(desk("a=g/0:0;k1;n=g+k").crossings(-1, 0, 0), 0);
        // At the last WAGE; a leap over 0.
        due(desk("a=g/0:9999:0;n=g").crossings(-1, 0, 0), 1);
        due(desk("a=g/0:9998:0;n=g").crossings(-1, 0, 0), 2);
        due(desk("a=g/0:3:0;n=g+g").crossings(-1, 0, 0), 1);
        due(desk("a=g/0:4:0;n=g+g").crossings(-1, 0, 0), 2);
        // 0 and back to the same side.
        due(desk("a=g/0:5:0/3:0:0/4:5:0;b=k/0:0;n=a").crossings(0, 1, 0), 2);
    }

    private static void gap() {
        sentence(SECTION, "GAP: the greatest difference, without sign.");
        // The difference is -5 .. 4 to 9, -5 from 10 on.
        PayPromise x = desk("a=g/0:5:0;b=g/0:1000/10:0:0;n=b-a");
        due(x.crossings(1, 0, 1), 5 * UNIT);
        due(x.crossings(1, 0, 2), 0);
        due(x.crossings(0, 1, 1), 5 * UNIT);
        due(x.crossings(0, 1, 2), 0);
        due(x.crossings(0, 0, 1), 0);
        due(x.crossings(0, 0, 2), 0);
        // As far above as below: the lower WAGE of both.
        x = desk("a=g/0:4:0;b=g/0:1000/9:0:0;n=b-a");
        due(x.crossings(1, 0, 1), 4 * UNIT);
        due(x.crossings(1, 0, 2), 0);
        x = desk("a=g/0:9:0;b=g/0:9:0/5:14:0/9:4:0;n=b");
        due(x.crossings(1, 0, 1), 5 * UNIT);
        due(x.crossings(1, 0, 2), 5);
        due(x.crossings(0, 1, 2), 5);
        x = desk("a=g/0:9:0;b=g/0:9:0/5:4:0/9:14:0;n=b");
        due(x.crossings(1, 0, 2), 5);
        x = desk("a=g/0:1/1:0;b=a/0:1;c=b/0:1;d=k/0:0;n=c");
        due(x.crossings(2, 3, 1), 1);
        due(x.crossings(2, 3, 2), 1);
        due(desk(TEETH).crossings(2, 3, 1), 1000 * UNIT);
        due(desk(TEETH).crossings(2, 3, 2), 9999);
        x = desk("a=g/0:0;n=g");
        due(x.crossings(-1, 0, 1), 9999 * UNIT);
        due(x.crossings(0, -1, 1), 9999 * UNIT);
        due(x.crossings(0, -1, 2), 9999);
    }

    private static void kinks() {
        sentence(SECTION, "KINKS of a line: PIECES but the first that bring more, less than the one ahead.");
        PayPromise x = desk("n=g");
        due(x.kinks(-1, 0), 0);
        due(x.kinks(-1, 1), 0);
        x = desk("a=g/0:100/10:101/20:100/30:99;n=-a");
        due(x.kinks(0, 0), 1);
        due(x.kinks(0, 1), 2);
        due(x.kinks(-1, 0), 2);
        due(x.kinks(-1, 1), 1);
        // A jump between PIECES that bring the same is none.
        x = desk("a=g/0:100/10:7:100;n=a");
        due(x.account(0, 3), 2);
        due(x.kinks(0, 0), 0);
        due(x.kinks(0, 1), 0);
        // The last WAGE alone brings 0.
        x = desk("a=g/0:100/9999:7:100;n=-a");
        due(x.kinks(0, 0), 0);
        due(x.kinks(0, 1), 1);
        due(x.kinks(-1, 0), 1);
        due(x.kinks(-1, 1), 0);
        due(desk("a=g/0:0/9999:7:100;n=a").kinks(0, 0), 0);
        due(desk("a=g/0:0/9999:7:100;n=a").kinks(0, 1), 0);
    }

    private static void until() {
        sentence(SECTION, "UNTIL: how many MONTHS more (0 to as many as still may come) of one WAGE, till PAID of all MONTHS is"
            + " no less than promised.");
        PayPromise x = desk("n=g");
        due(x.until(10, 0), 0);
        due(x.until(10, 1), 1);
        due(x.until(10, 10 * UNIT), 1);
        due(x.until(10, 10 * UNIT + 1), 2);
        due(x.until(10, 120 * UNIT), 12);
        due(x.until(10, 120 * UNIT + 1), NONE);
        due(x.until(0, 1), NONE);
        due(x.until(10, Long.MIN_VALUE), 0);
        due(x.until(10, Long.MAX_VALUE), NONE);
        x = desk("n=g", 11, 10);
        due(x.until(10, 110 * UNIT), 0);
        due(x.until(10, 110 * UNIT + 1), 1);
        due(x.until(10, 120 * UNIT), 1);
        due(x.until(10, 120 * UNIT + 1), NONE);
        x = desk("n=g", 12, 10);
        due(x.until(10, 120 * UNIT), 0);
        due(x.until(10, 120 * UNIT + 1), NONE);
        // PAID is less by one MONTH more, so the first time counts: 199, 299 - 30, 399 - 40.
        x = desk(FROM_1200, 1, 99);
        due(x.until(100, 199 * UNIT), 1);
        due(x.until(100, 199 * UNIT + 1), 2);
        due(x.rule(2), 1);
    }

    private static void free() {
        sentence(SECTION, "FREE: the greatest WAGE at which KEPT is no more than so many thousandths of the WAGE.");
        // KEPT: nothing to 10, a fifth of what is above it.
        PayPromise x = desk("a=g/0:0/10:200;n=g-a");
        due(x.free(0), 10);
        due(x.free(1), 10);
        due(x.free(18), 10);
        due(x.free(19), 11);
        due(x.free(100), 20);
        due(x.free(99), 19);
        due(x.free(199), 2000);
        due(x.free(200), 9999);
        due(x.free(1000), 9999);
        // A WAGE above those at which it is more: KEPT 5 from 10 on.
        x = desk("a=g/0:0/10:5:0/500:0:0/1000:1000;n=g-a");
        due(x.free(0), 1000);
        due(x.free(1), 1001);
        // KEPT below 0, nothing but WAGE 0, none at all.
        due(desk("n=g+g").free(0), 9999);
        due(desk("n=-g").free(1000), 0);
        due(desk("k1;n=-k").free(1000), NONE);
        due(desk(NANOS + "n=g-c").free(0), 0);
        due(desk(NANOS + "n=g+c").free(0), 9999);
        due(desk("n=k").free(999), 0);
        due(desk("n=k").free(1000), 9999);
    }

    private static void putIn() {
        sentence(SECTION, "PUT IN: PAID of the MONTH that is the j-th now, were a MONTH of a WAGE put in ahead of the i-th"
            + " (i no more than j).");
        PayPromise x = desk(FROM_1200);
        x.month(100);
        x.month(150);
        x.month(7);
        // 60 ahead of the first: 60, 100: 160 behind two: nothing DUE; 100 ahead: 10, 20.
        due(x.putIn(0, 60, 0), 100 * UNIT);
        due(x.putIn(0, 99, 0), 100 * UNIT);
        due(x.putIn(0, 100, 0), 90 * UNIT);
        due(x.putIn(0, 101, 0), 90 * UNIT);
        // The second: behind 60 and 100 nothing is DUE, behind 310 three times 10.
        due(x.putIn(0, 60, 1), 120 * UNIT);
        due(x.putIn(1, 60, 1), 120 * UNIT);
        due(x.putIn(2, 60, 1), HIDDEN);
        // The third: 317 behind four is below 100 each: all 30 are given back.
        due(x.putIn(0, 60, 2), 37 * UNIT);
        due(x.putIn(1, 60, 2), 37 * UNIT);
        due(x.putIn(2, 60, 2), 37 * UNIT);
        due(x.putIn(3, 60, 3), HIDDEN);
        due(x.rule(2), 3);
        due(x.sofar(0), 257);
    }

    private static void spell() {
        sentence(SECTION, "SPELL of an ACCOUNT, of PAID: its CLAUSE without blanks, numbers without leading 0, AT where it is told"
            + " (what comes in SUMS first has no + ahead of it).");
        PayPromise x = desk(" k 009 ; a = - g + k - g / 0000 : 0000 / 0009 : 0010 : 0100 / 1000:1999;b = g-a/0:9999:0; n = -b+a ");
        due(spelled(x, 0), "a=-g+k-g/0:0/9:10:100/1000:1999");
        due(spelled(x, 1), "b=g-a/0:9999:0");
        due(spelled(x, -1), "n=-b+a");
        x.bend(0, 0, 1, 0);
        x.bend(0, 1, 0, 99);
        x.bend(0, 2, 2, 0);
        due(spelled(x, 0), "a=-g+k-g/0:0:0/99:10:100/1000:0");
        due(spelled(desk("n=g"), -1), "n=g");
        due(spelled(desk("n=-k-g+k"), -1), "n=-k-g+k");
    }
}
