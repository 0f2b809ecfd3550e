/** Promises 1 to 13, sentence by sentence, with the document's constants. */
final class EdgesOfDesk extends Check {
    private static final String SIX_RULES = "a=g/0:1;b=g/0:1;c=g/0:1;d=g/0:1;e=g/0:1;f=g/0:1;n=f";
    /** Three lines; a has 3 SEGMENTS and 3 PIECES (0-10, 11-20, 21-9999), PAID is a less b. */
    private static final String BENT = "k4;a=g/0:0/10:500/20:1000;b=a-k/0:1:1000;n=a-b";

    static void run() {
        constants();
        newObject();
        feed();
        feedTooMuch();
        end();
        endRefused();
        fault();
        faultNone();
        deskTaken();
        deskRefused();
        rule();
        ruleRefused();
        account();
        accountRefused();
        segment();
        segmentRefused();
        at();
        atRefused();
        sum();
        sumRefused();
        which();
        whichRefused();
        piece();
        pieceRefused();
        pieceAt();
        pieceAtRefused();
    }

    private static void constants() {
        sentence("Constants", "`NONE = -1`: None; refused.");
        due(PayPromise.NONE, -1);
        sentence("Constants", "`HIDDEN = -9000000000000000000L`: Not told.");
        due(PayPromise.HIDDEN, -9_000_000_000_000_000_000L);
    }

    private static void newObject() {
        sentence("Promise 1", "No DESK.");
        PayPromise x = new PayPromise();
        due(x.rule(0), NONE);
        due(x.rule(2), NONE);
        due(throwsNoSuch(x, 0, 0), true);
        due(x.at(-1, 0), HIDDEN);
        due(x.most(0), HIDDEN);
        due(x.sofar(0), HIDDEN);
        due(x.spell(-1, -1), NONE);
        due(x.count(0), 0);
        due(x.count(1), NONE);
        due(x.fault(), 0);
        statusIs(x, 0, 0, 0, 0);
        // Another object knows nothing of this one.
        tell(x, "n=g");
        x.desk();
        tell(x, "n=");
        due(new PayPromise().rule(0), NONE);
        due(new PayPromise().count(0), 0);
    }

    private static void feed() {
        sentence("Promise 2", "Twenty bytes more come to the TAPE (of each number the highest first; bytes of 0 are left out):"
            + " how many it has.");
        PayPromise x = new PayPromise();
        due(x.feed(0x6b313233, 0x3b613d67, 0x2f303a35, 0x36373b6e, 0x3d612d6b), 20);
        due(x.fault(), NONE);
        due(x.desk(), 1);
        due(x.rule(1), 123);
        due(spelled(x, 0), "a=g/0:567");
        due(spelled(x, -1), "n=a-k");
        // Bytes of 0 at each place of a number, and in between.
        x = new PayPromise();
        due(x.feed(0, 0, 0, 0, 0), 0);
        due(x.feed(0x0000006e, 0, 0x00003d00, 0, 0x00670000), 3);
        due(x.feed(0x2d000000, 0, 0, 0, 0x6b), 5);
        due(x.fault(), NONE);
        x.desk();
        due(spelled(x, -1), "n=g-k");
        // The highest byte of a number below 0, and bytes of 1 and 255.
        x = new PayPromise();
        due(x.feed(0x80000000, 0, 0, 0, 0), 1);
        due(x.feed(-1, 0x01010101, 0, 0, 0), 9);
        due(x.feed(0xff, 0xff00, 0xff0000, 0xff000000, 0x00ff00ff), 15);
    }

    private static void feedTooMuch() {
        sentence("Promise 2", "NONE: more than 400.");
        PayPromise x = new PayPromise();
        due(tell(x, " ".repeat(380)), 380);
        due(tell(x, " ".repeat(20)), 400);
        due(x.feed(0, 0, 0, 0, 0), 400);
        due(x.feed(0, 0, 0, 0, 1), NONE);
        due(x.feed(0x20000000, 0, 0, 0, 0), NONE);
        due(x.count(0), 400);
        due(x.end(381), true);
        due(tell(x, " ".repeat(20)), NONE);
        due(x.count(0), 381);
        due(tell(x, " ".repeat(19)), 400);
        due(x.end(399), true);
        due(tell(x, "  "), NONE);
        due(x.count(0), 399);
        due(x.feed(0, 0, 0x2000, 0, 0), 400);
        // Nothing of what was refused came to the TAPE.
        x = new PayPromise();
        due(tell(x, " ".repeat(391) + "n=g"), 394);
        due(tell(x, "+k+k+k+"), NONE);
        due(x.fault(), NONE);
        due(tell(x, "+k+k+k"), 400);
        due(x.desk(), 0);
        due(x.rule(3), 4);
    }

    private static void end() {
        sentence("Promise 3", "The TAPE has its first n bytes alone.");
        PayPromise x = new PayPromise();
        due(tell(x, "n=g-k;;"), 7);
        due(x.end(7), true);
        due(x.count(0), 7);
        due(x.end(5), true);
        due(x.count(0), 5);
        due(x.fault(), NONE);
        due(x.end(3), true);
        due(x.desk(), 0);
        due(spelled(x, -1), "n=g");
        tell(x, "n=g");
        due(x.end(0), true);
        due(x.count(0), 0);
        due(x.end(0), true);
        // What was cut off does not come back.
        due(tell(x, "n"), 1);
        due(x.fault(), 1);
        x.end(0);
        tell(x, "k15");
        x.end(2);
        due(x.fault(), 2);
        x.end(0);
        tell(x, " ".repeat(400));
        due(x.end(400), true);
        due(x.count(0), 400);
    }

    private static void endRefused() {
        sentence("Promise 3", "False: n.");
        PayPromise x = new PayPromise();
        due(x.end(-1), false);
        due(x.end(1), false);
        due(x.end(0), true);
        tell(x, "n=g");
        due(x.end(4), false);
        due(x.end(-1), false);
        due(x.end(Integer.MAX_VALUE), false);
        due(x.end(Integer.MIN_VALUE), false);
        due(x.count(0), 3);
        due(x.end(2), true);
        due(x.end(3), false);
        due(x.count(0), 2);
        tell(x, " ".repeat(398));
        due(x.count(0), 400);
        due(x.end(401), false);
        due(x.end(400), true);
    }

    private static void fault() {
        sentence("Promise 4", "The FAULT of the TAPE.");
        PayPromise x = new PayPromise();
        due(x.fault(), 0);
        tell(x, "a=g/0:0;n=b");
        due(x.fault(), 10);
        due(x.fault(), 10);
        due(x.count(0), 11);
        x = new PayPromise();
        tell(x, " ".repeat(400));
        due(x.fault(), 400);
        x.end(399);
        due(x.fault(), 399);
        // A FAULT at the last byte of a full TAPE.
        x = new PayPromise();
        tell(x, " ".repeat(396) + "n=g;");
        due(x.fault(), 399);
    }

    private static void faultNone() {
        sentence("Promise 4", "NONE: none.");
        PayPromise x = new PayPromise();
        tell(x, "n=g");
        due(x.fault(), NONE);
        due(x.count(0), 3);
        due(x.rule(0), NONE);
        x = new PayPromise();
        tell(x, " ".repeat(397) + "n=g");
        due(x.fault(), NONE);
        due(x.desk(), 0);
        // Asking leaves the DESK as it is.
        x = desk("k7;a=g/0:5;n=a", 1, 3);
        tell(x, "k8;a=g/0:6;b=g/0:7;n=b+k");
        due(x.fault(), NONE);
        due(x.rule(0), 1);
        due(x.rule(1), 7);
        due(x.rule(2), 1);
        due(x.segment(0, 0, 2), 5);
        due(x.at(-1, 1000), 5 * UNIT);
    }

    private static void deskTaken() {
        sentence("Promise 5", "The TAPE (empty then) is the DESK (all that was of another one is gone but STATUS):"
            + " how many ACCOUNTS.");
        PayPromise x = new PayPromise();
        tell(x, "k7;a=g/0:5;b=a/0:1/2:3;n=a");
        due(x.desk(), 2);
        due(x.count(0), 0);
        due(x.fault(), 0);
        x.month(5);
        x.benefit(8);
        x.bend(1, 1, 1, 9);
        x.bend(9, 9, 9, 9);
        x.benefit(-1);
        x.benefit(8);
        tell(x, "a=g/0:0/5:5;n=g-a");
        due(x.rule(1), 8);
        due(x.desk(), 1);
        due(x.rule(1), 0);
        due(x.rule(2), 0);
        due(throwsNoSuch(x, 1, 0), true);
        due(x.segment(0, 1, 1), NONE);
        due(x.segment(0, 1, 0), 5);
        due(x.sofar(0), 0);
        due(x.rule(4), 2);
        statusIs(x, 1, 1, 1, 0);
        tell(x, "n=g");
        due(x.desk(), 0);
        due(x.count(1), 0);
        due(x.count(2), 0);
        tell(x, SIX_RULES);
        due(x.desk(), 6);
        // Nothing of any DESK or TEXT ahead: the BENEFIT, an AT, SEGMENTS, TERMS.
        x = new PayPromise();
        for (int i = 0; i < 3; i++) {
            tell(x, "k7;a=g-g-g+g/0:9:9/5:6:7;n=a+a+a-k");
            due(x.desk(), 1);
            tell(x, "k8;a=g+g+g/0:7:0/1:1/2:3;n=a;");
            due(x.fault(), 28);
            x.end(0);
            tell(x, "a=g/0:1000;n=k+a");
            due(x.desk(), 1);
            due(x.rule(1), 0);
            due(x.at(-1, 6), 6 * UNIT);
            due(x.count(1), 1);
            due(x.account(0, 1), 1);
            due(x.rule(3), 2);
            due(x.rule(4), 1);
        }
    }

    private static void deskRefused() {
        sentence("Promise 5", "NONE: a FAULT (the TAPE stays).");
        PayPromise x = new PayPromise();
        due(x.desk(), NONE);
        tell(x, "n=g;");
        due(x.desk(), NONE);
        due(x.count(0), 4);
        due(x.fault(), 3);
        due(x.rule(0), NONE);
        x.end(3);
        due(x.desk(), 0);
        // The DESK that was stays as well, with all that is of it.
        x.month(5);
        x.benefit(2);
        due(x.desk(), NONE);
        tell(x, "k9;a=g/0:1;n=b");
        due(x.desk(), NONE);
        due(x.rule(0), 0);
        due(x.rule(1), 2);
        due(x.rule(2), 1);
        due(x.at(-1, 5), 5 * UNIT);
        due(x.count(0), 14);
        statusIs(x, 0, 0, 0, 0);
    }

    private static void rule() {
        sentence("Promise 6", "0 ACCOUNTS, 1 the BENEFIT, 2 MONTHS, 3 TERMS of PAID, 4 PIECES of PAID, 5 CLIFFS.");
        PayPromise x = desk("k4;a=g/0:0/10:3:0;b=g/0:1;n=g-a+k-k");
        due(x.rule(0), 2);
        due(x.rule(1), 4);
        due(x.rule(2), 0);
        due(x.rule(3), 4);
        due(x.rule(4), 2);
        due(x.rule(5), 1);
        x.benefit(5);
        due(x.rule(1), 5);
        x.month(1);
        due(x.rule(2), 1);
        x.bend(0, 1, 1, 1);
        due(x.rule(5), 0);
        due(x.rule(4), 2);
        x.bend(0, 1, 1, 0);
        due(x.rule(4), 1);
        due(desk(SIX_RULES).rule(0), 6);
        due(desk("n=g").rule(0), 0);
        due(desk("n=g").rule(4), 1);
        due(desk("n=g", 12, 0).rule(2), 12);
        due(desk("n=-g").rule(5), 9999);
    }

    private static void ruleRefused() {
        sentence("Promise 6", "NONE: no DESK, no such what.");
        PayPromise x = desk("n=g");
        due(x.rule(-1), NONE);
        due(x.rule(6), NONE);
        due(x.rule(Integer.MIN_VALUE), NONE);
        due(x.rule(Integer.MAX_VALUE), NONE);
        for (int what = -1; what <= 6; what++) {
            due(new PayPromise().rule(what), NONE);
        }
    }

    private static void account() {
        sentence("Promise 7", "Of an ACCOUNT: 0 SEGMENTS, 1 TERMS of its SUM, 2 how DEEP, 3 PIECES.");
        PayPromise x = desk(BENT);
        due(x.account(0, 0), 3);
        due(x.account(0, 1), 1);
        due(x.account(0, 2), 1);
        due(x.account(0, 3), 3);
        due(x.account(1, 0), 1);
        due(x.account(1, 1), 2);
        due(x.account(1, 2), 2);
        // b is 1 until a is 4 at 18, and goes with a from there.
        due(x.account(1, 3), 3);
        x = desk(SIX_RULES);
        due(x.account(5, 0), 1);
        due(x.account(5, 3), 1);
    }

    private static void accountRefused() {
        sentence("Promise 7", "NoSuchElementException: no such ones.");
        PayPromise x = desk(BENT);
        for (int none : new int[] {-1, 2, Integer.MIN_VALUE, Integer.MAX_VALUE}) {
            due(throwsNoSuch(x, none, 0), true);
        }
        for (int none : new int[] {-1, 4, Integer.MIN_VALUE, Integer.MAX_VALUE}) {
            due(throwsNoSuch(x, 0, none), true);
            due(throwsNoSuch(x, 1, none), true);
        }
        for (int what = 0; what <= 3; what++) {
            due(throwsNoSuch(x, 0, what), false);
            due(throwsNoSuch(x, 1, what), false);
            due(throwsNoSuch(x, 2, what), true);
            due(throwsNoSuch(new PayPromise(), 0, what), true);
            due(throwsNoSuch(desk("n=g"), 0, what), true);
        }
        due(throwsNoSuch(desk(SIX_RULES), 5, 0), false);
        due(throwsNoSuch(desk(SIX_RULES), 6, 0), true);
    }

    private static void segment() {
        sentence("Promise 8", "Of a SEGMENT: 0 FROM, 1 AT (units; NONE: it tells none), 2 SLOPE, 3 OF: WAGES.");
        PayPromise x = desk("a=g/0:0:7/10:500/20:9999:1999;n=a");
        due(x.segment(0, 0, 0), 0);
        due(x.segment(0, 0, 1), 0);
        due(x.segment(0, 0, 2), 7);
        due(x.segment(0, 0, 3), 10);
        due(x.segment(0, 1, 0), 10);
        due(x.segment(0, 1, 1), NONE);
        due(x.segment(0, 1, 2), 500);
        due(x.segment(0, 1, 3), 10);
        due(x.segment(0, 2, 0), 20);
        due(x.segment(0, 2, 1), 9999);
        due(x.segment(0, 2, 2), 1999);
        due(x.segment(0, 2, 3), 9980);
        x.bend(0, 1, 0, 19);
        due(x.segment(0, 0, 3), 19);
        due(x.segment(0, 1, 3), 1);
    }

    private static void segmentRefused() {
        sentence("Promise 8", "NONE - 1: no such ones.");
        PayPromise x = desk("a=g/0:0:7/10:500;b=a/0:1;n=a");
        for (int none : new int[] {-1, 2, Integer.MIN_VALUE, Integer.MAX_VALUE}) {
            due(x.segment(none, 0, 0), NO_SUCH);
            due(x.segment(0, none, 0), NO_SUCH);
        }
        due(x.segment(0, 1, 0), 10);
        due(x.segment(1, 0, 0), 0);
        due(x.segment(1, 1, 0), NO_SUCH);
        for (int none : new int[] {-1, 4, Integer.MIN_VALUE, Integer.MAX_VALUE}) {
            due(x.segment(0, 0, none), NO_SUCH);
        }
        due(desk("n=g").segment(0, 0, 0), NO_SUCH);
        due(new PayPromise().segment(0, 0, 0), NO_SUCH);
        PayPromise six = desk("a=g/0:1/1:1/2:1/3:1/4:1/5:7;n=a");
        due(six.segment(0, 5, 2), 7);
        due(six.segment(0, 6, 2), NO_SUCH);
    }

    private static void at() {
        sentence("Promise 9", "An ACCOUNT (NONE: PAID) at a WAGE, in NANOS.");
        PayPromise x = desk(BENT);
        due(x.at(0, 10), 0);
        due(x.at(0, 11), UNIT / 2);
        due(x.at(0, 20), 5 * UNIT);
        due(x.at(0, 21), 6 * UNIT);
        due(x.at(0, 9999), 9984 * UNIT);
        due(x.at(1, 0), UNIT);
        due(x.at(1, 18), UNIT);
        due(x.at(1, 19), 1_500_000_000L);
        due(x.at(-1, 0), -UNIT);
        due(x.at(-1, 18), 3 * UNIT);
        due(x.at(-1, 19), 3 * UNIT);
        due(x.at(-1, 9999), 3 * UNIT);
    }

    private static void atRefused() {
        sentence("Promise 9", "HIDDEN: no such ones.");
        PayPromise x = desk(BENT);
        for (int none : new int[] {-2, 2, Integer.MIN_VALUE, Integer.MAX_VALUE}) {
            due(x.at(none, 0), HIDDEN);
        }
        for (int none : new int[] {-1, 10000, Integer.MIN_VALUE, Integer.MAX_VALUE}) {
            due(x.at(0, none), HIDDEN);
            due(x.at(-1, none), HIDDEN);
        }
        due(x.at(1, 9999) != HIDDEN, true);
        due(desk("n=g").at(0, 0), HIDDEN);
        due(desk("n=g").at(-1, 0), 0);
        due(new PayPromise().at(-1, 0), HIDDEN);
        due(new PayPromise().at(0, 0), HIDDEN);
    }

    private static void sum() {
        sentence("Promise 10", "The SUM of an ACCOUNT at a WAGE (below 0, too).");
        PayPromise x = desk(BENT);
        due(x.sum(0, 0), 0);
        due(x.sum(0, 9999), 9999 * UNIT);
        due(x.sum(1, 0), -4 * UNIT);
        due(x.sum(1, 17), -UNIT / 2);
        due(x.sum(1, 18), 0);
        due(x.sum(1, 19), UNIT / 2);
        due(desk("a=-g-g-g-g-g-g/0:0;n=a").sum(0, 9999), -6 * 9999 * UNIT);
    }

    private static void sumRefused() {
        sentence("Promise 10", "HIDDEN: no such ones.");
        PayPromise x = desk(BENT);
        for (int none : new int[] {-2, -1, 2, Integer.MIN_VALUE, Integer.MAX_VALUE}) {
            due(x.sum(none, 0), HIDDEN);
        }
        for (int none : new int[] {-1, 10000, Integer.MIN_VALUE, Integer.MAX_VALUE}) {
            due(x.sum(1, none), HIDDEN);
        }
        due(x.sum(1, 9999), 9980 * UNIT);
        due(new PayPromise().sum(0, 0), HIDDEN);
    }

    private static void which() {
        sentence("Promise 11", "WHICH SEGMENT.");
        PayPromise x = desk(BENT);
        due(x.which(0, 0), 0);
        due(x.which(0, 9), 0);
        due(x.which(0, 10), 1);
        due(x.which(0, 19), 1);
        due(x.which(0, 20), 2);
        due(x.which(0, 9999), 2);
        // By its SUM, not by the WAGE; below 0 it is the first.
        due(x.which(1, 0), 0);
        PayPromise six = desk("a=g/0:1/1:1/2:1/3:1/4:1/5:7;n=a");
        due(six.which(0, 4), 4);
        due(six.which(0, 5), 5);
        due(six.which(0, 6), 5);
    }

    private static void whichRefused() {
        sentence("Promise 11", "NONE: no such ones.");
        PayPromise x = desk(BENT);
        for (int none : new int[] {-2, -1, 2, Integer.MIN_VALUE, Integer.MAX_VALUE}) {
            due(x.which(none, 0), NONE);
        }
        for (int none : new int[] {-1, 10000, Integer.MIN_VALUE, Integer.MAX_VALUE}) {
            due(x.which(0, none), NONE);
        }
        due(new PayPromise().which(0, 0), NONE);
    }

    private static void piece() {
        sentence("Promise 12", "The i-th PIECE of an ACCOUNT (NONE: of PAID): 0 its first WAGE, 1 its last one, 2 what it is at the"
            + " first, 3 what one WAGE more brings (0 of one WAGE alone).");
        PayPromise x = desk(BENT);
        due(x.piece(0, 0, 0), 0);
        due(x.piece(0, 0, 1), 10);
        due(x.piece(0, 0, 2), 0);
        due(x.piece(0, 0, 3), 0);
        due(x.piece(0, 1, 0), 11);
        due(x.piece(0, 1, 1), 20);
        due(x.piece(0, 1, 2), UNIT / 2);
        due(x.piece(0, 1, 3), UNIT / 2);
        due(x.piece(0, 2, 0), 21);
        due(x.piece(0, 2, 1), 9999);
        due(x.piece(0, 2, 2), 6 * UNIT);
        due(x.piece(0, 2, 3), UNIT);
        // PAID: -1 to 10, then it rises by a half to 3 at 18, and stays.
        due(x.piece(-1, 0, 2), -UNIT);
        due(x.piece(-1, 1, 1), 18);
        due(x.piece(-1, 2, 0), 19);
        due(x.piece(-1, 2, 3), 0);
        x = desk("a=g/0:1000/9999:5:7;n=a");
        due(x.piece(0, 1, 0), 9999);
        due(x.piece(0, 1, 1), 9999);
        due(x.piece(0, 1, 2), 5 * UNIT);
        due(x.piece(0, 1, 3), 0);
        due(x.piece(0, 0, 1), 9998);
        x = desk("a=g/0:1000/9998:5:7;n=a");
        due(x.piece(0, 1, 0), 9998);
        due(x.piece(0, 1, 1), 9999);
        due(x.piece(0, 1, 3), 7_000_000L);
        x.bend(0, 1, 0, 9999);
        due(x.piece(0, 1, 3), 0);
        due(x.piece(-1, 1, 3), 0);
    }

    private static void pieceRefused() {
        sentence("Promise 12", "HIDDEN: no such ones.");
        PayPromise x = desk(BENT);
        for (int none : new int[] {-2, 2, Integer.MIN_VALUE, Integer.MAX_VALUE}) {
            due(x.piece(none, 0, 0), HIDDEN);
        }
        for (int none : new int[] {-1, 3, Integer.MIN_VALUE, Integer.MAX_VALUE}) {
            due(x.piece(0, none, 0), HIDDEN);
            due(x.piece(-1, none, 0), HIDDEN);
        }
        for (int none : new int[] {-1, 4, Integer.MIN_VALUE, Integer.MAX_VALUE}) {
            due(x.piece(0, 0, none), HIDDEN);
        }
        due(x.piece(1, 2, 0), 21);
        due(desk("n=g").piece(0, 0, 0), HIDDEN);
        due(desk("n=g").piece(-1, 0, 1), 9999);
        due(desk("n=g").piece(-1, 1, 0), HIDDEN);
        due(new PayPromise().piece(-1, 0, 0), HIDDEN);
    }

    private static void pieceAt() {
        sentence("Promise 13", "In which PIECE of an ACCOUNT (NONE: of PAID) a WAGE is.");
        PayPromise x = desk(BENT);
        due(x.pieceAt(0, 0), 0);
        due(x.pieceAt(0, 10), 0);
        due(x.pieceAt(0, 11), 1);
        due(x.pieceAt(0, 20), 1);
        due(x.pieceAt(0, 21), 2);
        due(x.pieceAt(0, 9999), 2);
        due(x.pieceAt(-1, 18), 1);
        due(x.pieceAt(-1, 19), 2);
        due(x.pieceAt(1, 18), 0);
        due(x.pieceAt(1, 19), 1);
        PayPromise teeth = desk(TEETH);
        for (int i = 0; i <= 179; i++) {
            due(teeth.pieceAt(-1, 50 * i), i);
            due(teeth.pieceAt(-1, 50 * i + 49), i);
        }
        for (int wage = LAST; wage >= 0; wage -= 577) {
            due(teeth.pieceAt(2, wage), Math.min(wage / 50, 179));
        }
        due(desk("a=g/0:1000/9999:5:7;n=a").pieceAt(0, 9998), 0);
        due(desk("a=g/0:1000/9999:5:7;n=a").pieceAt(0, 9999), 1);
    }

    private static void pieceAtRefused() {
        sentence("Promise 13", "NONE: no such ones.");
        PayPromise x = desk(BENT);
        for (int none : new int[] {-2, 2, Integer.MIN_VALUE, Integer.MAX_VALUE}) {
            due(x.pieceAt(none, 0), NONE);
        }
        for (int none : new int[] {-1, 10000, Integer.MIN_VALUE, Integer.MAX_VALUE}) {
            due(x.pieceAt(0, none), NONE);
            due(x.pieceAt(-1, none), NONE);
        }
        due(new PayPromise().pieceAt(-1, 0), NONE);
    }
}
