/** The second part of the document's Terms, sentence by sentence: what is reckoned, MONTHS, what is told by hand. */
final class EdgesOfReckoning extends Check {
    private static final String SECTION = "Terms 2";
    /** KEPT is the WAGE itself. */
    private static final String ALL_KEPT = "a=g/0:1000;n=g-a";

    static void run() {
        sums();
        accounts();
        untoldAts();
        paid();
        kept();
        pieces();
        months();
        due();
        paidInMonth();
        bounds();
        neighbours();
        atFromThenOn();
        byHand();
        rulesAsTheyAre();
        status();
        severalReasons();
    }

    private static void sums() {
        sentence(SECTION, "What a SUM is at a WAGE: its TERMS added, taken away.");
        PayPromise x = desk("k7;a=g/0:1000;b=-g+k+g-a-k+g/0:1;c=g-k/0:1;n=-k-g+a+a-c");
        due(x.sum(0, 0), 0);
        due(x.sum(0, 5), 5 * UNIT);
        due(x.sum(1, 5), 0);
        due(x.sum(2, 6), -UNIT);
        due(x.sum(2, 7), 0);
        due(x.sum(2, 8), UNIT);
        due(x.at(-1, 5), -2 * UNIT);
        due(x.at(-1, 9), 2 * UNIT - 2_000_000L);
    }

    private static void accounts() {
        sentence(SECTION, "An ACCOUNT at a WAGE: of its SUM (0, if that is below 0), by the last of its SEGMENTS whose FROM"
            + " is no more than it: AT there, and what it is above FROM times SLOPE by 1000 (whole NANOS always).");
        PayPromise x = desk("k3;a=g-k/0:4:500/2:1:250/5:9:0;n=a");
        due(x.at(0, 0), 4 * UNIT);
        due(x.at(0, 2), 4 * UNIT);
        due(x.at(0, 3), 4 * UNIT);
        due(x.at(0, 4), 4_500_000_000L);
        due(x.at(0, 5), UNIT);
        due(x.at(0, 6), 1_250_000_000L);
        due(x.at(0, 7), 1_500_000_000L);
        due(x.at(0, 8), 9 * UNIT);
        due(x.at(0, LAST), 9 * UNIT);
        // SUMS that are no whole units: 0.999 lies below FROM 1, 1.998 above, 1000 thousandths on it.
        x = desk("a=g/0:999;b=a/0:0/1:7:0;c=g/0:1000;d=c/0:0/1:7:0;n=b");
        due(x.at(1, 1), 0);
        due(x.at(1, 2), 7 * UNIT);
        due(x.at(3, 0), 0);
        due(x.at(3, 1), 7 * UNIT);
        // The deepest and least SLOPES come to a NANO.
        x = desk("a=g/0:1;b=a/0:1;c=b/0:1;n=c");
        due(x.at(2, 0), 0);
        due(x.at(2, 1), 1);
        due(x.at(2, LAST), LAST);
        // A SEGMENT that begins at 9,999 has one WAGE, and one whose FROM is never come to has none.
        x = desk("k1;a=g/0:0/9999:5:1;b=g-k/0:0/9999:5:1;n=a");
        due(x.at(0, LAST - 1), 0);
        due(x.at(0, LAST), 5 * UNIT);
        due(x.at(1, LAST), 0);
    }

    private static void untoldAts() {
        sentence(SECTION, "AT of a SEGMENT that tells none: what the one ahead comes to at this FROM (0 of the first).");
        PayPromise x = desk("a=g/0:500/4:1000/6:0/8:1999/9:3:0/10:1;n=a");
        due(x.at(0, 0), 0);
        due(x.at(0, 1), UNIT / 2);
        due(x.at(0, 4), 2 * UNIT);
        due(x.at(0, 5), 3 * UNIT);
        due(x.at(0, 6), 4 * UNIT);
        due(x.at(0, 8), 4 * UNIT);
        due(x.at(0, 9), 3 * UNIT);
        due(x.at(0, 10), 3 * UNIT);
        due(x.at(0, 11), 3_001_000_000L);
        due(x.segment(0, 1, 1), NONE);
        // The one ahead tells AT.
        x = desk("a=g/0:7:1000/3:0;n=a");
        due(x.at(0, 2), 9 * UNIT);
        due(x.at(0, 3), 10 * UNIT);
        due(x.at(0, 4), 10 * UNIT);
        // AT 0 is told.
        x = desk("a=g/0:7:1000/3:0:0;n=a");
        due(x.at(0, 3), 0);
    }

    private static void paid() {
        sentence(SECTION, "PAID: its SUM (it may be below 0).");
        PayPromise x = desk("k5;n=g-k");
        due(x.at(-1, 0), -5 * UNIT);
        due(x.at(-1, 4), -UNIT);
        due(x.at(-1, 5), 0);
        due(x.at(-1, 6), UNIT);
    }

    private static void kept() {
        sentence(SECTION, "KEPT: the WAGE less PAID.");
        PayPromise x = desk("k5;n=g+g-k");
        due(x.kept(0), 5 * UNIT);
        due(x.kept(4), UNIT);
        due(x.kept(5), 0);
        due(x.kept(6), -UNIT);
        due(x.kept(LAST), -9994 * UNIT);
    }

    private static void pieces() {
        sentence(SECTION, "PIECES of an ACCOUNT, of PAID, by WAGES: from 0 on: a PIECE begins at a WAGE, and goes on as far as"
            + " what one more WAGE brings is as from its first to its second one; the next one begins one further.");
        due(pieces("n=g"), "0-9999");
        due(pieces("n=k"), "0-9999");
        // Where a line is bent at 10 the PIECE ahead has 10 still.
        due(pieces("a=g/0:0/10:500;n=a"), "0-10 11-9999");
        // Where it jumps to 10 the next one begins there.
        due(pieces("a=g/0:0/10:5:0;n=a"), "0-9 10-9999");
        // It jumps by what the PIECE ahead brings.
        due(pieces("a=g/0:1000/10:10:0;n=a"), "0-10 11-9999");
        // From WAGE 0 to 1 a jump: that is what the first PIECE brings.
        due(pieces("a=g/0:0/1:5:0;n=a"), "0-1 2-9999");
        due(pieces("a=g/0:0/1:5:0/2:10:0;n=a"), "0-2 3-9999");
        due(pieces("a=g/0:0/2:5:0;n=a"), "0-1 2-9999");
        // A flat step of one WAGE is no PIECE, one of two WAGES is.
        due(pieces("a=g/0:1000/5:0/6:1000;n=a"), "0-5 6-9999");
        due(pieces("a=g/0:1000/5:0/7:1000;n=a"), "0-5 6-7 8-9999");
        // The last PIECE may have one WAGE alone.
        due(pieces("a=g/0:0/9999:5:0;n=a"), "0-9998 9999-9999");
        due(pieces("a=g/0:0/9998:5:0;n=a"), "0-9997 9998-9999");
        due(pieces("a=g/0:0/9998:5;n=a"), "0-9998 9999-9999");
        due(pieces("a=g/0:0/9999:5;n=a"), "0-9999");
        // A SEGMENT more that goes on as the one ahead begins no PIECE.
        due(pieces("a=g/0:5/10:5;n=a"), "0-9999");
        // SUMS that fall: to below 0, from SEGMENT to SEGMENT, and up again.
        due(pieces("k5;a=k-g/0:1000;n=a"), "0-5 6-9999");
        due(pieces("k30;a=k-g/0:0/10:7:100/20:1000;n=a"), "0-10 11-20 21-9999");
        due(pieces("k30;a=k-g/0:1000/10:70:100/20:1000;n=a"), "0-10 11-20 21-30 31-9999");
        due(pieces("k9;a=g-k/0:3:1000;n=a"), "0-9 10-9999");
        PayPromise x = desk("a=g/0:0/9999:5:0;n=a");
        due(x.piece(0, 1, 2), 5 * UNIT);
        due(x.piece(0, 1, 3), 0);
        x = desk("a=g/0:1000/10:0:0;b=-a/0:4:1000;c=a-g/0:2:1;d=a+a-g/0:1000/5:0:0;n=g");
        // d: the WAGE to 4, nothing at 5 to 9, and from 10 on.
        due(x.piece(3, 0, 1), 4);
        due(x.piece(3, 1, 0), 5);
        due(x.account(3, 3), 2);
        due(x.account(1, 3), 1);
        due(x.account(2, 3), 1);
    }

    /** Of an ACCOUNT and of PAID, which is the same line. */
    private static String pieces(String text) {
        PayPromise x = desk(text);
        StringBuilder all = new StringBuilder();
        for (int i = 0; i < x.rule(4); i++) {
            all.append(i == 0 ? "" : " ").append(x.piece(-1, i, 0)).append('-').append(x.piece(-1, i, 1));
        }
        for (int i = 0; i < x.rule(4) && x.rule(0) > 0; i++) {
            due(x.account(0, 3), x.rule(4));
            for (int what = 0; what < 4; what++) {
                due(x.piece(0, i, what), x.piece(-1, i, what));
            }
        }
        return all.toString();
    }

    private static void months() {
        sentence(SECTION, "MONTHS of a YEAR (12 at most): WAGES W1, W2 ..: so far G (all added up).");
        PayPromise x = desk("n=g");
        for (int i = 0; i < 12; i++) {
            due(x.rule(2), i);
            due(x.sofar(0), i * 9999);
            due(x.month(LAST), LAST * UNIT);
        }
        due(x.rule(2), 12);
        due(x.sofar(0), 12 * 9999);
        due(x.month(0), HIDDEN);
        due(x.rule(2), 12);
        due(x.sofar(0), 12 * 9999);
        due(x.takeBack(), LAST);
        due(x.month(0), 0);
        due(x.month(0), HIDDEN);
    }

    private static void due() {
        sentence(SECTION, "DUE behind m of these: KEPT at G times 12 by m (cut; 9,999 at most), times m by 12 (cut downwards).");
        // KEPT is the WAGE: 833 times 12 is 9,996, 834 times 12 is more than 9,999.
        PayPromise x = desk(ALL_KEPT);
        x.month(833);
        due(x.year(0, 2), 833 * UNIT);
        x = desk(ALL_KEPT);
        x.month(834);
        due(x.year(0, 2), 833_250_000_000L);
        x = desk(ALL_KEPT);
        x.month(LAST);
        due(x.year(0, 2), 833_250_000_000L);
        // 1 behind 5: 12 by 5 is cut to 2, times 5 by 12: 0.8333333333; 2 behind 5: 24 by 5 is cut to 4.
        x = desk(ALL_KEPT, 4, 0);
        x.month(1);
        due(x.year(3, 2), 0);
        due(x.year(4, 2), 833_333_333L);
        x.takeBack();
        x.month(2);
        due(x.year(4, 2), 1_666_666_666L);
        // Behind 12: the WAGES themselves; 9,998, 9,999, 10,000 in all.
        x = desk(ALL_KEPT, 10, 0);
        x.month(9998);
        x.month(0);
        due(x.year(11, 2), 9998 * UNIT);
        x.takeBack();
        x.month(1);
        due(x.year(11, 2), 9999 * UNIT);
        x.takeBack();
        x.month(2);
        due(x.year(11, 2), 9999 * UNIT);
        // Below 0 it is cut downwards, too: a twelfth of -1 unit, of -12 units; of 1 unit.
        x = desk("k1;n=g+k");
        x.month(0);
        due(x.year(0, 2), -83_333_334L);
        x.benefit(12);
        due(x.year(0, 2), -UNIT);
        x = desk("k1;n=g-k");
        x.month(0);
        due(x.year(0, 2), 83_333_333L);
    }

    private static void paidInMonth() {
        sentence(SECTION, "PAID in MONTH m: its WAGE less (DUE behind m, less DUE behind m less 1; 0 behind none).");
        PayPromise x = desk("k12;n=g-k");
        due(x.month(5), 4 * UNIT);
        due(x.month(0), -UNIT);
        due(x.year(0, 1), 4 * UNIT);
        due(x.year(1, 1), -UNIT);
        due(x.year(1, 2), 2 * UNIT);
        // DUE becomes less: some is given back.
        x = desk(FROM_1200);
        due(x.month(100), 90 * UNIT);
        due(x.month(99), 109 * UNIT);
        due(x.year(0, 2), 10 * UNIT);
        due(x.year(1, 2), 0);
    }

    private static void bounds() {
        sentence(SECTION, "By hand: FROM, AT, SLOPE of a SEGMENT is told anew (bounds as in a TEXT;");
        PayPromise x = desk("a=g/0:0:5/10:1:5;n=a");
        due(x.bend(0, 1, 0, LAST), 10);
        due(x.bend(0, 1, 0, LAST + 1), NO_SUCH);
        due(x.bend(0, 1, 0, 1), LAST);
        due(x.bend(0, 1, 0, 0), NO_SUCH);
        due(x.bend(0, 1, 0, -1), NO_SUCH);
        due(x.bend(0, 1, 1, 0), 1);
        due(x.bend(0, 1, 1, -1), NO_SUCH);
        due(x.bend(0, 1, 1, LAST), 0);
        due(x.bend(0, 1, 1, LAST + 1), NO_SUCH);
        due(x.bend(0, 1, 2, 0), 5);
        due(x.bend(0, 1, 2, -1), NO_SUCH);
        due(x.bend(0, 1, 2, 1999), 0);
        due(x.bend(0, 1, 2, 2000), NO_SUCH);
        due(x.bend(0, 0, 1, LAST), 0);
        due(x.bend(0, 0, 2, 1999), 5);
        statusIs(x, 0, 7, 0, 0);
        due(spelled(x, 0), "a=g/0:9999:1999/1:9999:1999");
    }

    private static void neighbours() {
        sentence(SECTION, "FROM stays between its neighbours';");
        PayPromise x = desk("a=g/0:1/10:2/20:3/30:4;n=a");
        due(x.bend(0, 2, 0, 10), NO_SUCH);
        due(x.bend(0, 2, 0, 11), 20);
        due(x.bend(0, 2, 0, 30), NO_SUCH);
        due(x.bend(0, 2, 0, 29), 11);
        due(x.bend(0, 3, 0, 29), NO_SUCH);
        due(x.bend(0, 3, 0, 28), NO_SUCH);
        due(x.bend(0, 3, 0, LAST), 30);
        due(x.bend(0, 1, 0, 29), NO_SUCH);
        due(x.bend(0, 1, 0, 28), 10);
        due(x.bend(0, 1, 0, 1), 28);
        due(x.bend(0, 1, 0, 0), NO_SUCH);
        statusIs(x, 0, 6, 0, 0);
        due(spelled(x, 0), "a=g/0:1/1:2/29:3/9999:4");
    }

    private static void atFromThenOn() {
        sentence(SECTION, "of one without AT it has one from then on);");
        PayPromise x = desk("a=g/0:1000/5:0;n=a");
        due(x.bend(0, 1, 1, 0), NONE);
        due(x.segment(0, 1, 1), 0);
        due(x.at(0, 4), 4 * UNIT);
        due(x.at(0, 5), 0);
        due(x.bend(0, 1, 1, 0), NO_SUCH);
        due(x.bend(0, 0, 2, 1), 1000);
        due(x.at(0, 5), 0);
        // The same AT as it comes to by itself is new as long as none is told.
        x = desk("a=g/0:1000/5:0;n=a");
        due(x.bend(0, 1, 1, 5), NONE);
        due(x.bend(0, 0, 2, 1), 1000);
        due(x.at(0, 5), 5 * UNIT);
        due(x.bend(0, 0, 1, 0), NONE);
        due(x.segment(0, 0, 1), 0);
        statusIs(x, 0, 0, 0, 0);
    }

    private static void byHand() {
        sentence(SECTION, "the BENEFIT; a MONTH comes; the latest one is taken back.");
        PayPromise x = desk("k1;n=g+k");
        due(x.benefit(2), 1);
        due(x.at(-1, 0), 2 * UNIT);
        due(x.takeBack(), NONE);
        x.month(7);
        x.month(8);
        due(x.takeBack(), 8);
        due(x.rule(2), 1);
        due(x.takeBack(), 7);
        due(x.rule(2), 0);
        due(x.takeBack(), NONE);
        due(x.rule(2), 0);
        statusIs(x, 2, 0, 0, 0);
    }

    private static void rulesAsTheyAre() {
        sentence(SECTION, "MONTHS are reckoned by rules as they are.");
        PayPromise x = desk("k12;a=g/0:12:0;n=g-a-k");
        x.month(5);
        x.month(6);
        due(x.year(0, 1), 3 * UNIT);
        due(x.bend(0, 0, 1, 24), 12);
        due(x.year(0, 1), 2 * UNIT);
        due(x.year(1, 1), 3 * UNIT);
        due(x.year(1, 2), 6 * UNIT);
        due(x.benefit(0), 12);
        due(x.year(0, 1), 3 * UNIT);
        due(x.sofar(1), 7 * UNIT);
    }

    private static void status() {
        sentence(SECTION, "STATUS: how many of these were refused as there was no such one, no DESK (0), out of bounds (1),"
            + " it is so (2), too much: 12 MONTHS (3);");
        PayPromise x = new PayPromise();
        statusIs(x, 0, 0, 0, 0);
        x.bend(0, 0, 1, 1);
        statusIs(x, 1, 0, 0, 0);
        x.benefit(1);
        statusIs(x, 2, 0, 0, 0);
        x.month(1);
        statusIs(x, 3, 0, 0, 0);
        x.takeBack();
        statusIs(x, 4, 0, 0, 0);
        tell(x, "k3;a=g/0:0:0/5:1:1;n=a");
        x.desk();
        x.bend(1, 0, 1, 1);
        x.bend(0, 2, 1, 1);
        x.bend(0, 0, 3, 1);
        x.takeBack();
        statusIs(x, 8, 0, 0, 0);
        x.bend(0, 0, 1, 10000);
        x.benefit(1000);
        x.month(10000);
        statusIs(x, 8, 3, 0, 0);
        x.bend(0, 1, 0, 5);
        x.bend(0, 1, 1, 1);
        x.bend(0, 1, 2, 1);
        x.benefit(3);
        statusIs(x, 8, 3, 4, 0);
        for (int i = 0; i < 12; i++) {
            x.month(1);
        }
        statusIs(x, 8, 3, 4, 0);
        x.month(1);
        statusIs(x, 8, 3, 4, 1);
        // What is granted, and what only asks or comes to the TAPE, counts nothing.
        x.benefit(4);
        x.bend(0, 1, 2, 7);
        x.takeBack();
        x.end(-1);
        x.desk();
        x.would(9, 9, 9, 9);
        x.putIn(99, 0, 0);
        x.rule(99);
        statusIs(x, 8, 3, 4, 1);
    }

    private static void severalReasons() {
        sentence(SECTION, "of several the first.");
        PayPromise x = new PayPromise();
        x.bend(0, 0, 2, 5000);
        x.benefit(-1);
        x.benefit(0);
        x.month(-1);
        statusIs(x, 4, 0, 0, 0);
        x = desk("a=g/0:0:0;n=a");
        x.bend(0, 1, 2, 5000);
        x.bend(1, 0, 2, 5000);
        x.bend(0, 0, 3, 50000);
        x.bend(0, 0, -1, 0);
        statusIs(x, 4, 0, 0, 0);
        // FROM of the first one is refused, be it so or not.
        x.bend(0, 0, 0, 0);
        statusIs(x, 4, 1, 0, 0);
        x = desk("n=g", 12, 1);
        x.month(-1);
        statusIs(x, 0, 1, 0, 0);
        x.month(10000);
        statusIs(x, 0, 2, 0, 0);
        x.month(9999);
        statusIs(x, 0, 2, 0, 1);
    }
}
