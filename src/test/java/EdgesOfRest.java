/** Promises 30 to 47, sentence by sentence: what would be, searches, two lines, spelling, counts. */
final class EdgesOfRest extends Check {
    /** Two ACCOUNTS, of 2 SEGMENTS and 1; at 100 a is 12, b is 5 and PAID 83. */
    private static final String TWO = "k10;a=g+k/0:100/100:200;b=k/0:500;n=g-a-b";

    static void run() {
        would();
        wouldRefused();
        both();
        bothRefused();
        without();
        withoutRefused();
        kept();
        keptRefused();
        first();
        firstRefused();
        raise();
        raiseRefused();
        over();
        overRefused();
        inKind();
        inKindRefused();
        through();
        throughRefused();
        crossings();
        crossingsRefused();
        kinks();
        kinksRefused();
        until();
        untilRefused();
        free();
        freeRefused();
        putIn();
        putInRefused();
        spell();
        spellRefused();
        status();
        statusRefused();
        most();
        mostOfTraps();
        mostRefused();
        count();
        countRefused();
    }

    private static void would() {
        sentence("Promise 30", "WOULD.");
        PayPromise x = desk(TWO);
        due(x.at(-1, 100), 83 * UNIT);
        due(x.would(0, 0, 0, 100), 93 * UNIT);
        due(x.would(0, 0, 1999, 100), (83_000 - 189_900) * 1_000_000L);
        due(x.would(0, 1, 0, 100), 85 * UNIT);
        due(x.would(1, 0, 0, 100), 88 * UNIT);
        due(x.would(1, 0, 0, 0), -UNIT);
        due(x.would(0, 1, 0, 9999), (9999 - 15) * UNIT);
        due(x.at(-1, 100), 83 * UNIT);
        due(x.piece(-1, 0, 2), -6 * UNIT);
    }

    private static void wouldRefused() {
        sentence("Promise 30", "HIDDEN: no such ones, SLOPE out of bounds.");
        PayPromise x = desk(TWO);
        for (int none : new int[] {-1, 2, Integer.MIN_VALUE, Integer.MAX_VALUE}) {
            due(x.would(none, 0, 0, 100), HIDDEN);
            due(x.would(0, none, 0, 100), HIDDEN);
        }
        due(x.would(1, 1, 0, 100), HIDDEN);
        for (int none : new int[] {-1, 2000, Integer.MIN_VALUE, Integer.MAX_VALUE}) {
            due(x.would(0, 0, none, 100), HIDDEN);
        }
        for (int none : new int[] {-1, 10000, Integer.MIN_VALUE, Integer.MAX_VALUE}) {
            due(x.would(0, 0, 0, none), HIDDEN);
        }
        due(desk("n=g").would(0, 0, 0, 0), HIDDEN);
        due(new PayPromise().would(0, 0, 0, 0), HIDDEN);
        statusIs(x, 0, 0, 0, 0);
    }

    private static void both() {
        sentence("Promise 31", "BOTH.");
        PayPromise x = desk(FROM_1200);
        due(x.both(0, 199), 199 * UNIT);
        due(x.both(1, 199), 180 * UNIT);
        due(x.both(9999, 0), 9979 * UNIT);
        due(x.both(0, 9999), 9979 * UNIT);
        due(x.rule(2), 0);
    }

    private static void bothRefused() {
        sentence("Promise 31", "HIDDEN: no such WAGES, no DESK.");
        PayPromise x = desk("n=g");
        for (int none : new int[] {-1, 10000, Integer.MIN_VALUE, Integer.MAX_VALUE}) {
            due(x.both(none, 5), HIDDEN);
            due(x.both(5, none), HIDDEN);
            due(x.both(none, none), HIDDEN);
        }
        due(x.both(0, 0), 0);
        due(x.both(9999, 9999), 19998 * UNIT);
        due(new PayPromise().both(0, 0), HIDDEN);
    }

    private static void without() {
        sentence("Promise 32", "WITHOUT.");
        PayPromise x = desk(TWO);
        due(x.without(0, 100), 95 * UNIT);
        due(x.without(1, 100), 88 * UNIT);
        due(x.without(0, 0), -5 * UNIT);
        due(x.without(1, 0), -UNIT);
        due(x.without(0, 9999), 9994 * UNIT);
        due(x.at(-1, 100), 83 * UNIT);
    }

    private static void withoutRefused() {
        sentence("Promise 32", "HIDDEN: no such ones.");
        PayPromise x = desk(TWO);
        for (int none : new int[] {-2, -1, 2, Integer.MIN_VALUE, Integer.MAX_VALUE}) {
            due(x.without(none, 0), HIDDEN);
        }
        for (int none : new int[] {-1, 10000, Integer.MIN_VALUE, Integer.MAX_VALUE}) {
            due(x.without(0, none), HIDDEN);
        }
        due(desk("n=g").without(0, 0), HIDDEN);
        due(new PayPromise().without(0, 0), HIDDEN);
    }

    private static void kept() {
        sentence("Promise 33", "KEPT at a WAGE.");
        PayPromise x = desk(TWO);
        due(x.kept(0), 6 * UNIT);
        due(x.kept(100), 17 * UNIT);
        due(x.kept(90), 15 * UNIT);
        due(x.kept(91), 15_200_000_000L);
        due(x.kept(9999), (15 + 9909) * UNIT - 9909 * 800_000_000L);
        due(desk("n=g+g").kept(9999), -9999 * UNIT);
    }

    private static void keptRefused() {
        sentence("Promise 33", "HIDDEN: no such one, no DESK.");
        PayPromise x = desk(TWO);
        for (int none : new int[] {-1, 10000, Integer.MIN_VALUE, Integer.MAX_VALUE}) {
            due(x.kept(none), HIDDEN);
        }
        due(new PayPromise().kept(0), HIDDEN);
        due(new PayPromise().kept(9999), HIDDEN);
    }

    private static void first() {
        sentence("Promise 34", "The first WAGE at which an ACCOUNT is above 0.");
        PayPromise x = desk("k3;a=g/0:0/10:1;b=k/0:1;c=g/0:0/9999:1:0;d=g/0:0/5:1:0/6:0:0;e=g/0:0/9998:1;f=k-g/0:1;n=g");
        due(x.first(0), 11);
        due(x.first(1), 0);
        due(x.first(2), 9999);
        due(x.first(3), 5);
        due(x.first(4), 9999);
        due(x.first(5), 0);
        // A NANO is above 0.
        due(desk("a=g/0:1;b=a/0:1;c=b/0:1;n=c").first(2), 1);
    }

    private static void firstRefused() {
        sentence("Promise 34", "NONE: none, no such one.");
        PayPromise x = desk("a=g/0:0;b=-g/0:1000;c=g/0:0/9999:1;d=g/0:1;n=g");
        due(x.first(0), NONE);
        due(x.first(1), NONE);
        due(x.first(2), NONE);
        due(x.first(3), 1);
        for (int none : new int[] {-2, -1, 4, Integer.MIN_VALUE, Integer.MAX_VALUE}) {
            due(x.first(none), NONE);
        }
        due(desk("n=g").first(0), NONE);
        due(new PayPromise().first(0), NONE);
    }

    private static void raise() {
        sentence("Promise 35", "RAISE.");
        PayPromise x = desk(TWO_CLIFFS);
        due(x.raise(9, 0), 9);
        due(x.raise(9, 1), 15);
        due(x.raise(9, 5 * UNIT), 19);
        due(x.raise(9, 5 * UNIT + 1), 35);
        due(x.raise(20, 0), 20);
        due(x.raise(20, UNIT), 21);
        due(x.raise(20, 9979 * UNIT), 9999);
    }

    private static void raiseRefused() {
        sentence("Promise 35", "NONE: none, no such WAGE, below 0, no DESK.");
        PayPromise x = desk(TWO_CLIFFS);
        due(x.raise(20, 9979 * UNIT + 1), NONE);
        due(x.raise(20, Long.MAX_VALUE), NONE);
        due(x.raise(9999, 0), 9999);
        due(x.raise(9999, 1), NONE);
        for (int none : new int[] {-1, 10000, Integer.MIN_VALUE, Integer.MAX_VALUE}) {
            due(x.raise(none, 0), NONE);
        }
        due(x.raise(20, -1), NONE);
        due(x.raise(20, Long.MIN_VALUE), NONE);
        due(new PayPromise().raise(0, 0), NONE);
        // PAID far below 0, and as much as a long holds.
        due(desk("n=-g-g-g-g-g-g").raise(9999, Long.MAX_VALUE), NONE);
    }

    private static void over() {
        sentence("Promise 36", "OVER.");
        // a is 5; PAID is the WAGE.
        PayPromise x = desk("a=k/0:5:0;n=g");
        due(x.over(-1, 0, 0), 5);
        due(x.over(-1, 0, 4), 5);
        due(x.over(-1, 0, 6), 6);
        due(x.over(0, -1, 0), 0);
        due(x.over(0, -1, 5), 5);
        due(x.over(0, -1, 6), NONE);
        due(x.over(0, 0, 9999), 9999);
    }

    private static void overRefused() {
        sentence("Promise 36", "NONE: none, no such ones (an ACCOUNT, NONE: PAID, both).");
        PayPromise x = desk("a=k/0:5:0;n=g");
        due(x.over(0, -1, 9999), NONE);
        for (int none : new int[] {-2, 1, Integer.MIN_VALUE, Integer.MAX_VALUE}) {
            due(x.over(none, 0, 0), NONE);
            due(x.over(0, none, 0), NONE);
            due(x.over(none, none, 0), NONE);
        }
        for (int none : new int[] {-1, 10000, Integer.MIN_VALUE, Integer.MAX_VALUE}) {
            due(x.over(0, 0, none), NONE);
            due(x.over(-1, -1, none), NONE);
        }
        due(x.over(-1, -1, 0), 0);
        due(new PayPromise().over(-1, -1, 0), NONE);
        due(new PayPromise().over(0, 0, 0), NONE);
    }

    private static void inKind() {
        sentence("Promise 37", "IN KIND.");
        // At 100: PAID is 90 less 0.2 and 0.5 of the BENEFIT.
        PayPromise x = desk(TWO);
        due(x.inKind(83 * UNIT, 100), 10);
        due(x.inKind(83 * UNIT + 1, 100), 9);
        due(x.inKind(83 * UNIT - 1, 100), 10);
        due(x.inKind(90 * UNIT, 100), 0);
        due(x.inKind(90_000_000_000L - 699_300_000_000L, 100), 999);
        due(x.inKind(90_000_000_000L - 699_300_000_000L + 1, 100), 998);
        due(x.rule(1), 10);
        statusIs(x, 0, 0, 0, 0);
    }

    private static void inKindRefused() {
        sentence("Promise 37", "NONE: none, no such WAGE, no DESK.");
        PayPromise x = desk(TWO);
        due(x.inKind(90 * UNIT + 1, 100), NONE);
        due(x.inKind(Long.MAX_VALUE, 100), NONE);
        for (int none : new int[] {-1, 10000, Integer.MIN_VALUE, Integer.MAX_VALUE}) {
            due(x.inKind(Long.MIN_VALUE, none), NONE);
        }
        due(x.inKind(Long.MIN_VALUE, 0), 999);
        due(x.inKind(Long.MIN_VALUE, 9999), 999);
        due(new PayPromise().inKind(Long.MIN_VALUE, 0), NONE);
    }

    private static void through() {
        sentence("Promise 38", "THROUGH.");
        PayPromise x = desk(TWO);
        due(x.through(0, 0), -100_000_000L);
        due(x.through(0, 89), -100_000_000L);
        due(x.through(0, 90), -200_000_000L);
        due(x.through(1, 90), 0);
        due(x.through(0, 9998), -200_000_000L);
    }

    private static void throughRefused() {
        sentence("Promise 38", "HIDDEN: no such ones.");
        PayPromise x = desk(TWO);
        for (int none : new int[] {-2, -1, 2, Integer.MIN_VALUE, Integer.MAX_VALUE}) {
            due(x.through(none, 0), HIDDEN);
        }
        for (int none : new int[] {-1, 9999, 10000, Integer.MIN_VALUE, Integer.MAX_VALUE}) {
            due(x.through(0, none), HIDDEN);
        }
        due(desk("n=g").through(0, 0), HIDDEN);
        due(new PayPromise().through(0, 0), HIDDEN);
    }

    private static void crossings() {
        sentence("Promise 39", "CROSSINGS of two lines (ACCOUNTS; NONE: PAID): how many (0), GAP (1), the lowest WAGE with that (2).");
        // PAID less a: -5 at 0, 0 at 5, 5 from 10 on.
        PayPromise x = desk("a=k/0:5:0;b=g/0:1000/10:0;n=b");
        due(x.crossings(-1, 0, 0), 2);
        due(x.crossings(-1, 0, 1), 5 * UNIT);
        due(x.crossings(-1, 0, 2), 0);
        due(x.crossings(0, -1, 2), 0);
        due(x.crossings(-1, 1, 0), 0);
        due(x.crossings(-1, 1, 1), 0);
        due(x.crossings(-1, 1, 2), 0);
        x.bend(1, 1, 2, 1);
        due(x.crossings(1, 0, 1), 5 * UNIT + 9989 * 1_000_000L);
        due(x.crossings(1, 0, 2), 9999);
        x.bend(1, 1, 2, 0);
        x.bend(0, 0, 1, 4);
        // -4 at 0, 6 from 10 on: the lowest WAGE of those.
        due(x.crossings(1, 0, 1), 6 * UNIT);
        due(x.crossings(1, 0, 2), 10);
        due(x.crossings(0, 1, 2), 10);
    }

    private static void crossingsRefused() {
        sentence("Promise 39", "HIDDEN: no such ones.");
        PayPromise x = desk("a=k/0:5:0;n=g");
        for (int none : new int[] {-2, 1, Integer.MIN_VALUE, Integer.MAX_VALUE}) {
            due(x.crossings(none, 0, 0), HIDDEN);
            due(x.crossings(0, none, 0), HIDDEN);
            due(x.crossings(-1, none, 1), HIDDEN);
        }
        for (int none : new int[] {-1, 3, Integer.MIN_VALUE, Integer.MAX_VALUE}) {
            due(x.crossings(0, -1, none), HIDDEN);
        }
        due(desk("n=g").crossings(-1, -1, 0), 0);
        due(new PayPromise().crossings(-1, -1, 0), HIDDEN);
    }

    private static void kinks() {
        sentence("Promise 40", "KINKS of an ACCOUNT (NONE: of PAID): that bring more (0), less (1).");
        PayPromise x = desk("a=g/0:0/10:200/20:400/30:300;n=g-a");
        due(x.kinks(0, 0), 2);
        due(x.kinks(0, 1), 1);
        due(x.kinks(-1, 0), 1);
        due(x.kinks(-1, 1), 2);
        x.bend(0, 3, 2, 400);
        due(x.kinks(0, 1), 0);
    }

    private static void kinksRefused() {
        sentence("Promise 40", "NONE: no such ones.");
        PayPromise x = desk("a=g/0:0/10:200;n=g-a");
        for (int none : new int[] {-2, 1, Integer.MIN_VALUE, Integer.MAX_VALUE}) {
            due(x.kinks(none, 0), NONE);
            due(x.kinks(none, 1), NONE);
        }
        for (int none : new int[] {-1, 2, Integer.MIN_VALUE, Integer.MAX_VALUE}) {
            due(x.kinks(0, none), NONE);
            due(x.kinks(-1, none), NONE);
        }
        due(desk("n=g").kinks(0, 0), NONE);
        due(new PayPromise().kinks(-1, 0), NONE);
    }

    private static void until() {
        sentence("Promise 41", "UNTIL.");
        PayPromise x = desk("k12;n=g-k", 2, 10);
        // PAID 9 each MONTH: 18 so far, 1 less than the WAGE by each more.
        due(x.until(5, 18 * UNIT), 0);
        due(x.until(5, 18 * UNIT + 1), 1);
        due(x.until(5, 22 * UNIT), 1);
        due(x.until(5, 22 * UNIT + 1), 2);
        due(x.until(5, 58 * UNIT), 10);
        due(x.until(0, 18 * UNIT), 0);
        due(x.until(9999, 18 * UNIT + 1), 1);
        due(x.rule(2), 2);
    }

    private static void untilRefused() {
        sentence("Promise 41", "NONE: by none, no such WAGE, no DESK.");
        PayPromise x = desk("k12;n=g-k", 2, 10);
        due(x.until(5, 58 * UNIT + 1), NONE);
        due(x.until(0, 18 * UNIT + 1), NONE);
        due(x.until(9999, Long.MAX_VALUE), NONE);
        for (int none : new int[] {-1, 10000, Integer.MIN_VALUE, Integer.MAX_VALUE}) {
            due(x.until(none, Long.MIN_VALUE), NONE);
        }
        due(desk("n=g", 12, 1).until(5, 12 * UNIT), 0);
        due(desk("n=g", 12, 1).until(5, 12 * UNIT + 1), NONE);
        due(new PayPromise().until(0, 0), NONE);
        due(new PayPromise().until(0, Long.MIN_VALUE), NONE);
    }

    private static void free() {
        sentence("Promise 42", "FREE (thousandths 0 .. 1000).");
        PayPromise x = desk("a=g/0:0/1000:200/3000:1000/5000:2000:1999;n=g-a");
        due(x.free(0), 1000);
        due(x.free(100), 2000);
        due(x.free(1), 1005);
        // KEPT is the WAGE less 2,600 below 5,000, and 2,000 at 5,000: two fifths of it.
        due(x.free(399), 4326);
        due(x.free(400), 5000);
        due(x.free(401), 5003);
        due(x.free(999), 7995);
        due(x.free(1000), 8003);
    }

    private static void freeRefused() {
        sentence("Promise 42", "NONE: none, out of bounds, no DESK.");
        PayPromise x = desk("n=g");
        for (int none : new int[] {-1, 1001, Integer.MIN_VALUE, Integer.MAX_VALUE}) {
            due(x.free(none), NONE);
        }
        due(x.free(0), 9999);
        due(x.free(1000), 9999);
        due(desk("k1;n=-k").free(0), NONE);
        due(desk("k1;n=-k").free(1000), NONE);
        due(desk("k0;n=-k").free(1000), 9999);
        due(new PayPromise().free(0), NONE);
        due(new PayPromise().free(1000), NONE);
    }

    private static void putIn() {
        sentence("Promise 43", "PUT IN.");
        PayPromise x = desk(FROM_1200, 2, 100);
        due(x.putIn(0, 99, 0), 100 * UNIT);
        due(x.putIn(0, 100, 0), 90 * UNIT);
        due(x.putIn(0, 9999, 0), 90 * UNIT);
        due(x.putIn(0, 0, 1), 100 * UNIT);
        due(x.putIn(1, 0, 1), 100 * UNIT);
        due(x.putIn(1, 100, 1), 90 * UNIT);
        due(x.rule(2), 2);
        PayPromise eleven = desk("n=g", 11, 7);
        due(eleven.putIn(0, 5, 10), 7 * UNIT);
        due(eleven.putIn(10, 5, 10), 7 * UNIT);
        due(eleven.rule(2), 11);
    }

    private static void putInRefused() {
        sentence("Promise 43", "HIDDEN: no such MONTHS, 12 MONTHS, no such WAGE, no DESK, i above j.");
        PayPromise x = desk("n=g", 3, 7);
        for (int none : new int[] {-1, 3, Integer.MIN_VALUE, Integer.MAX_VALUE}) {
            due(x.putIn(none, 5, 2), HIDDEN);
            due(x.putIn(0, 5, none), HIDDEN);
            due(x.putIn(none, 5, none), HIDDEN);
        }
        for (int none : new int[] {-1, 10000, Integer.MIN_VALUE, Integer.MAX_VALUE}) {
            due(x.putIn(0, none, 0), HIDDEN);
        }
        due(x.putIn(1, 5, 0), HIDDEN);
        due(x.putIn(1, 5, 1), 7 * UNIT);
        due(x.putIn(2, 5, 1), HIDDEN);
        due(x.putIn(2, 5, 2), 7 * UNIT);
        due(x.putIn(0, 0, 0), 7 * UNIT);
        due(x.putIn(0, 9999, 0), 7 * UNIT);
        due(desk("n=g").putIn(0, 5, 0), HIDDEN);
        due(desk("n=g", 11, 7).putIn(0, 5, 0), 7 * UNIT);
        due(desk("n=g", 12, 7).putIn(0, 5, 0), HIDDEN);
        due(new PayPromise().putIn(0, 5, 0), HIDDEN);
        statusIs(x, 0, 0, 0, 0);
    }

    private static void spell() {
        sentence("Promise 44", "SPELL of an ACCOUNT (NONE: of PAID): how many bytes (i NONE), the i-th.");
        PayPromise x = desk("a=g-k/0:10/0200:0:1999;n=a");
        due(x.spell(0, -1), 21);
        due(x.spell(0, 0), 'a');
        due(x.spell(0, 1), '=');
        due(x.spell(0, 3), '-');
        due(x.spell(0, 20), '9');
        due(x.spell(-1, -1), 3);
        due(x.spell(-1, 0), 'n');
        due(x.spell(-1, 2), 'a');
        due(spelled(x, 0), "a=g-k/0:10/200:0:1999");
        // The longest CLAUSES.
        String longest = "a=-g-g-g-g-g-g/0:9999:1999/1000:9999:1999/2000:9999:1999/3000:9999:1999/4000:9999:1999/5000:9999:1999";
        due(spelled(desk(longest + ";n=-a-a-a-a-a-a"), 0), longest);
        due(spelled(desk(longest + ";n=-a-a-a-a-a-a"), -1), "n=-a-a-a-a-a-a");
    }

    private static void spellRefused() {
        sentence("Promise 44", "NONE: no such ones.");
        PayPromise x = desk("a=g/0:10;n=a");
        due(x.spell(0, 7), '0');
        for (int none : new int[] {-2, 8, Integer.MIN_VALUE, Integer.MAX_VALUE}) {
            due(x.spell(0, none), NONE);
        }
        due(x.spell(-1, 2), 'a');
        due(x.spell(-1, 3), NONE);
        for (int none : new int[] {-2, 1, Integer.MIN_VALUE, Integer.MAX_VALUE}) {
            due(x.spell(none, -1), NONE);
            due(x.spell(none, 0), NONE);
        }
        due(new PayPromise().spell(-1, -1), NONE);
        due(new PayPromise().spell(0, 0), NONE);
    }

    private static void status() {
        sentence("Promise 45", "STATUS.");
        PayPromise x = desk("k1;n=g", 12, 0);
        due(x.status(0), 0);
        due(x.status(1), 0);
        due(x.status(2), 0);
        due(x.status(3), 0);
        x.bend(0, 0, 0, 0);
        x.benefit(-1);
        x.benefit(1000);
        x.benefit(1);
        x.benefit(1);
        x.benefit(1);
        x.month(0);
        x.month(0);
        x.month(0);
        x.month(0);
        statusIs(x, 1, 2, 3, 4);
        // It stays when another DESK comes, and with a TAPE that is refused.
        x.desk();
        statusIs(x, 1, 2, 3, 4);
        tell(x, "n=g");
        x.desk();
        statusIs(x, 1, 2, 3, 4);
    }

    private static void statusRefused() {
        sentence("Promise 45", "NONE: no such what.");
        PayPromise x = desk("n=g");
        for (int none : new int[] {-1, 4, Integer.MIN_VALUE, Integer.MAX_VALUE}) {
            due(x.status(none), NONE);
            due(new PayPromise().status(none), NONE);
        }
        due(new PayPromise().status(0), 0);
        due(new PayPromise().status(3), 0);
    }

    private static void most() {
        sentence("Promise 46", "The greatest PAID (0), the lowest WAGE with that (1), the least PAID (2), the lowest WAGE with that (3),"
            + " STEEPEST (4), FLAT (5),");
        PayPromise x = desk(TWO_CLIFFS);
        due(x.most(0), 9979 * UNIT);
        due(x.most(1), 9999);
        due(x.most(2), 0);
        due(x.most(3), 0);
        due(x.most(4), 19);
        due(x.most(5), 0);
        x = desk("a=g/0:1000/10:0/20:0:0/30:10:0;n=-a");
        // PAID falls to -10 at 10, is 0 from 20 on, -10 from 30 on.
        due(x.most(0), 0);
        due(x.most(1), 0);
        due(x.most(2), -10 * UNIT);
        due(x.most(3), 10);
        due(x.most(4), 29);
        due(x.most(5), 3);
        x = desk("k5;n=k");
        due(x.most(0), 5 * UNIT);
        due(x.most(1), 0);
        due(x.most(2), 5 * UNIT);
        due(x.most(3), 0);
        due(x.most(4), 0);
        due(x.most(5), 1);
        // PAID is below 0 at all WAGES, and above it.
        x = desk("k1;a=g/0:9999:0;n=g-a-k");
        due(x.most(0), -UNIT);
        due(x.most(1), 9999);
        x = desk("k1;a=g/0:9999:0;n=a+k-g");
        due(x.most(2), UNIT);
        due(x.most(3), 9999);
        x = desk("a=g/0:5:0/1:4:0/9998:6:0/9999:3:0;n=a");
        due(x.most(0), 6 * UNIT);
        due(x.most(1), 9998);
        due(x.most(2), 3 * UNIT);
        due(x.most(3), 9999);
        due(x.most(4), 9998);
        due(x.most(5), 1);
    }

    private static void mostOfTraps() {
        sentence("Promise 46", "the longest TRAP (6; 0), WAGES in TRAPS (7; each once), the greatest PIECE of PAID by WAGES"
            + " (8; of several the first), the least MORE (9).");
        PayPromise x = desk(TWO_CLIFFS);
        due(x.most(6), 14);
        due(x.most(7), 18);
        due(x.most(8), 2);
        due(x.most(9), -14 * UNIT);
        x = desk("n=g");
        due(x.most(6), 0);
        due(x.most(7), 0);
        due(x.most(8), 0);
        due(x.most(9), UNIT);
        // Flat at the most that was so far is no TRAP.
        x = desk("a=g/0:1000/10:0/20:5:0/30:10:0;n=a");
        due(x.most(6), 10);
        due(x.most(7), 10);
        due(desk("k5;n=k").most(6), 0);
        due(desk("k5;n=k").most(7), 0);
        // A TRAP within a TRAP: 10 to 29, in it 15 to 17; each WAGE once.
        x = desk("a=g/0:0/10:20:0/15:24:0/18:20:0;n=g-a");
        due(x.cliff(0, 3), 19);
        due(x.cliff(1, 3), 3);
        due(x.most(6), 19);
        due(x.most(7), 19);
        // TRAPS that touch: 10 to 13 and 14 on, to the end.
        x = desk("a=g/0:0/10:5:0/15:9000:1000;n=g-a");
        due(x.cliff(0, 2), 14);
        due(x.cliff(1, 0), 15);
        due(x.cliff(1, 2), NONE);
        due(x.most(6), 9985);
        due(x.most(7), 4 + 9985);
        due(desk("n=-g").most(6), 9999);
        due(desk("n=-g").most(7), 9999);
        due(desk("a=g/0:0/9999:2:0;n=g-a").most(6), 1);
        due(desk("a=g/0:0/9999:2:0;n=g-a").most(7), 1);
        // PIECES of as many WAGES, of one more and of one less.
        due(desk("a=g/0:0/5000:7:0;n=a").most(8), 0);
        due(desk("a=g/0:0/4999:7:0;n=a").most(8), 1);
        due(desk("a=g/0:0/5001:7:0;n=a").most(8), 0);
        due(desk("a=g/0:0/9999:7:0;n=a").most(9), 0);
        due(desk("a=g/0:9:0/9999:7:0;n=a").most(9), -2 * UNIT);
    }

    private static void mostRefused() {
        sentence("Promise 46", "HIDDEN: no DESK, no such what.");
        PayPromise x = desk("n=g");
        for (int none : new int[] {-1, 10, Integer.MIN_VALUE, Integer.MAX_VALUE}) {
            due(x.most(none), HIDDEN);
        }
        for (int what = 0; what <= 9; what++) {
            due(new PayPromise().most(what), HIDDEN);
            due(x.most(what) != HIDDEN, true);
        }
    }

    private static void count() {
        sentence("Promise 47", "0 bytes of the TAPE, 1 SEGMENTS of all ACCOUNTS, 2 PIECES of all ACCOUNTS.");
        PayPromise x = desk("a=g/0:0/5:1:0/9:1;b=g/0:1;n=a");
        due(x.count(0), 0);
        due(x.count(1), 4);
        due(x.count(2), 4);
        tell(x, "n=g");
        due(x.count(0), 3);
        x.bend(0, 1, 1, 0);
        due(x.count(2), 3);
        x.desk();
        due(x.count(0), 0);
        due(x.count(1), 0);
        due(x.count(2), 0);
        tell(x, " ".repeat(400));
        due(x.count(0), 400);
        StringBuilder full = new StringBuilder();
        for (char letter = 'a'; letter <= 'f'; letter++) {
            full.append(letter).append("=g/0:1/1:2/2:3/3:4/4:5/5:6;");
        }
        x = desk(full + "n=f");
        due(x.count(1), 36);
        // Bent at each WAGE to 5, an ACCOUNT has the PIECES 0-1, 2-3, 4-5, 6-9999.
        due(x.count(2), 24);
    }

    private static void countRefused() {
        sentence("Promise 47", "NONE for others; 1, 2 without a DESK.");
        PayPromise x = desk("a=g/0:1;n=g");
        for (int none : new int[] {-1, 3, Integer.MIN_VALUE, Integer.MAX_VALUE}) {
            due(x.count(none), NONE);
            due(new PayPromise().count(none), NONE);
        }
        due(x.count(1), 1);
        due(x.count(2), 1);
        due(new PayPromise().count(0), 0);
        due(new PayPromise().count(1), NONE);
        due(new PayPromise().count(2), NONE);
    }
}
