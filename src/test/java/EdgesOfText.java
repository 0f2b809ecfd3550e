/** The first part of the document's Terms, sentence by sentence: what a TEXT may be, and where it is wrong. */
final class EdgesOfText extends Check {
    private static final String SECTION = "Terms 1";
    private static final String SIX_RULES = "a=g/0:1;b=g/0:1;c=g/0:1;d=g/0:1;e=g/0:1;f=g/0:1;";
    private static final String THREE_DEEP = "a=g/0:1;b=a/0:1;c=b/0:1;";
    /** Every kind of sign is in it, and a number of two digits. */
    private static final String WHOLE = "k5;a=-g+k/0:10/5:0:1;b=a-g/0:1;n=b";

    static void run() {
        amounts();
        wages();
        clauses();
        benefit();
        rules();
        paid();
        segments();
        terms();
        froms();
        ats();
        slopes();
        digits();
        blanks();
        tooShort();
        outOfBounds();
        fromNotGreater();
        letterNotTold();
        secondBenefit();
        notTheNextLetter();
        seventhAtItsSign();
        slopeWithoutAt();
        tooDeep();
        behindPaid();
        howDeep();
    }

    private static void amounts() {
        sentence(SECTION, "AMOUNTS are told in NANOS: a unit has 1,000,000,000.");
        PayPromise x = desk("k1;a=g/0:1;n=g");
        due(x.at(-1, 0), 0);
        due(x.at(-1, 1), 1_000_000_000L);
        due(x.at(-1, 2), 2_000_000_000L);
        due(x.at(-1, LAST), 9_999_000_000_000L);
        due(x.at(0, 1), 1_000_000L);
    }

    private static void wages() {
        sentence(SECTION, "WAGES are whole units, 0 .. 9,999.");
        String text = "a=g/0:1000;n=g-a";
        PayPromise x = desk(text, 1, 0);
        for (int wage : new int[] {-1, LAST + 1, Integer.MIN_VALUE, Integer.MAX_VALUE}) {
            due(x.at(0, wage), HIDDEN);
            due(x.sum(0, wage), HIDDEN);
            due(x.which(0, wage), NONE);
            due(x.pieceAt(0, wage), NONE);
            due(x.more(wage), HIDDEN);
            due(x.average(wage), HIDDEN);
            due(x.month(wage), HIDDEN);
            due(x.would(0, 0, 0, wage), HIDDEN);
            due(x.both(wage, 0), HIDDEN);
            due(x.both(0, wage), HIDDEN);
            due(x.without(0, wage), HIDDEN);
            due(x.kept(wage), HIDDEN);
            due(x.raise(wage, 0), NONE);
            due(x.over(0, 0, wage), NONE);
            due(x.inKind(0, wage), NONE);
            due(x.through(0, wage), HIDDEN);
            due(x.until(wage, 0), NONE);
            due(x.putIn(0, wage, 0), HIDDEN);
        }
        for (int wage : new int[] {0, 1, LAST - 1, LAST}) {
            PayPromise y = desk(text);
            due(y.at(0, wage), wage * UNIT);
            due(y.sum(0, wage), wage * UNIT);
            due(y.which(0, wage), 0);
            due(y.pieceAt(0, wage), 0);
            due(y.would(0, 0, 0, wage), wage * UNIT);
            due(y.without(0, wage), wage * UNIT);
            due(y.kept(wage), wage * UNIT);
            due(y.raise(wage, 0), wage);
            due(y.over(0, 0, wage), wage);
            due(y.inKind(0, wage), 999);
            due(y.until(wage, 0), 0);
            due(y.both(wage, 0) != HIDDEN, true);
            due(y.both(0, wage) != HIDDEN, true);
            due(y.month(wage) != HIDDEN, true);
            due(y.year(0, 0), wage);
            due(y.putIn(0, wage, 0) != HIDDEN, true);
        }
    }

    private static void clauses() {
        sentence(SECTION, "A DESK is a TEXT: CLAUSES with ; between:");
        due(faultOf("k1;a=g/0:0;n=a"), NONE);
        due(faultOf("k1 a=g/0:0;n=a"), 3);
        due(faultOf("k1;a=g/0:0 n=a"), 11);
        due(faultOf("k1,a=g/0:0;n=a"), 2);
        due(faultOf(";k1;n=g"), 0);
        due(faultOf("k1;;n=g"), 3);
        due(faultOf("a=g/0:0;;n=a"), 8);
        due(faultOf("n=g;"), 3);
    }

    private static void benefit() {
        sentence(SECTION, "k NUMBER (the BENEFIT, 0 .. 999, in units; one at most),");
        due(desk("n=k").rule(1), 0);
        due(desk("k0;n=k").rule(1), 0);
        due(desk("k1;n=k").rule(1), 1);
        due(desk("k998;n=k").rule(1), 998);
        due(desk("k999;n=k").rule(1), 999);
        due(desk("k999;n=k").at(-1, 0), 999 * UNIT);
        due(faultOf("k1000;n=k"), 4);
        due(faultOf("k9999;n=k"), 4);
        due(faultOf("k-1;n=k"), 1);
        due(faultOf("k;n=k"), 1);
        due(faultOf("k=1;n=k"), 1);
        due(faultOf("k1;k1;n=k"), 3);
        due(desk("a=g/0:0;k7;b=k/0:0;n=k").rule(1), 7);
    }

    private static void rules() {
        sentence(SECTION, "rules (6 at most, of the ACCOUNTS a, b, .. f in this order),");
        due(desk("n=g").rule(0), 0);
        for (int many = 1; many <= 6; many++) {
            due(desk(SIX_RULES.substring(0, 8 * many) + "n=g").rule(0), many);
        }
        due(faultOf(SIX_RULES + "g=g/0:1;n=g"), 48);
        due(faultOf(SIX_RULES + "f=g/0:1;n=g"), 48);
        due(faultOf(SIX_RULES + "a=g/0:1;n=g"), 48);
        due(faultOf(SIX_RULES + "k1;g=g/0:1;n=g"), 51);
        due(faultOf("b=g/0:1;a=g/0:1;n=g"), 0);
        due(faultOf("a=g/0:1;c=g/0:1;n=g"), 8);
    }

    private static void paid() {
        sentence(SECTION, "and last n = SUM (PAID).");
        due(faultOf("n=g"), NONE);
        due(faultOf("a=g/0:0;n=g"), NONE);
        due(faultOf("a=g/0:0"), 7);
        due(faultOf("a=g/0:0;"), 8);
        due(faultOf("k1"), 2);
        due(faultOf("n=g;a=g/0:0"), 3);
        due(faultOf("n=g;n=g"), 3);
        due(faultOf("n g"), 2);
        due(faultOf("n"), 1);
        due(faultOf("n="), 2);
        due(faultOf("m=g"), 0);
        due(faultOf("N=g"), 0);
    }

    private static void segments() {
        sentence(SECTION, "A rule: its letter, = SUM, and SEGMENTS, 1 to 6, each: / FROM : AT : SLOPE, or / FROM : SLOPE.");
        due(faultOf("a/0:0;n=g"), 1);
        due(faultOf("a g/0:0;n=g"), 2);
        due(faultOf("a=/0:0;n=g"), 2);
        due(faultOf("a=g;n=g"), 3);
        due(faultOf("a=g/;n=g"), 4);
        due(faultOf("a=g/:0;n=g"), 4);
        due(faultOf("a=g/0;n=g"), 5);
        due(faultOf("a=g/0:;n=g"), 6);
        due(faultOf("a=g/0::0;n=g"), 6);
        due(faultOf("a=g/0:0:;n=g"), 8);
        due(faultOf("a=g/0:0:0:0;n=g"), 9);
        due(faultOf("a=g/0:0:0:;n=g"), 9);
        due(faultOf("a=g//0:0;n=g"), 4);
        due(faultOf("a=g/0:0//1:0;n=g"), 8);
        StringBuilder told = new StringBuilder("a=g");
        for (int many = 1; many <= 6; many++) {
            told.append('/').append(many - 1).append(many % 2 == 0 ? ":7:8" : ":9");
            PayPromise x = desk(told + ";n=a");
            due(x.account(0, 0), many);
            due(x.segment(0, many - 1, 1), many % 2 == 0 ? 7 : NONE);
            due(x.segment(0, many - 1, 2), many % 2 == 0 ? 8 : 9);
        }
        due(faultOf(told + "/6:1;n=a"), told.length());
    }

    private static void terms() {
        sentence(SECTION, "SUM: a TERM (it may have a - ahead), TERMS with + or - ahead of each: g (the WAGE),"
            + " k (the BENEFIT), a letter of an ACCOUNT told ahead; 1 to 6 of these.");
        due(faultOf("n=;"), 2);
        due(faultOf("n=-"), 3);
        due(faultOf("n=+g"), 2);
        due(faultOf("n=--g"), 3);
        due(faultOf("n=g-+g"), 4);
        due(faultOf("n=g+-g"), 4);
        due(faultOf("n=g+"), 4);
        due(faultOf("n=gk"), 3);
        due(faultOf("n=5"), 2);
        due(faultOf("n=g*g"), 3);
        due(desk("n=g").rule(3), 1);
        due(desk("n=-g").rule(3), 1);
        due(desk("n=-g-k").rule(3), 2);
        due(desk("n=g+g+g+g+g").rule(3), 5);
        due(desk("n=g+k-g-k+g-k").rule(3), 6);
        due(desk("n=-g+k-g-k+g-k").rule(3), 6);
        due(faultOf("n=g+k-g-k+g-k+g"), 13);
        due(faultOf("n=-g+k-g-k+g-k-g"), 14);
        // Each letter is what it says: 1 to 6 units of 1,000, a WAGE of 1,000, a BENEFIT of 7.
        String each = "k7;a=g/0:1;b=g/0:2;c=g/0:3;d=g/0:4;e=g/0:5;f=g/0:6;n=";
        for (int i = 0; i < 8; i++) {
            char letter = "abcdefgk".charAt(i);
            long value = i < 6 ? i + 1 : i == 6 ? 1000 : 7;
            due(desk(each + letter).at(-1, 1000), value * UNIT);
            due(desk(each + "-" + letter).at(-1, 1000), -value * UNIT);
            due(desk(each + "k-" + letter).at(-1, 1000), (7 - value) * UNIT);
            due(desk(each + "k-" + letter).piece(-1, 0, 3), i < 6 ? -value * 1_000_000L : i == 6 ? -UNIT : 0);
        }
        due(desk("a=g+g+g+g+g+g/0:0;n=a").account(0, 1), 6);
        due(desk("a=-k/0:0;n=a").account(0, 1), 1);
        due(faultOf("a=g+g+g+g+g+g+g/0:0;n=a"), 13);
    }

    private static void froms() {
        sentence(SECTION, "FROM 0 .. 9999 (units; of the first one 0, of others greater than that ahead),");
        due(faultOf("a=g/0:0;n=a"), NONE);
        due(faultOf("a=g/0000:0;n=a"), NONE);
        due(faultOf("a=g/1:0;n=a"), 4);
        due(faultOf("a=g/9999:0;n=a"), 7);
        due(faultOf("a=g/0:0/0:0;n=a"), 8);
        due(faultOf("a=g/0:0/1:0;n=a"), NONE);
        due(faultOf("a=g/0:0/9998:0;n=a"), NONE);
        due(faultOf("a=g/0:0/9999:0;n=a"), NONE);
        due(faultOf("a=g/0:0/10000:0;n=a"), 12);
        due(faultOf("a=g/0:0/50:0/49:0;n=a"), 14);
        due(faultOf("a=g/0:0/50:0/50:0;n=a"), 14);
        due(faultOf("a=g/0:0/50:0/51:0;n=a"), NONE);
        due(faultOf("a=g/0:0/9998:0/9999:0;n=a"), NONE);
        due(faultOf("a=g/0:0/9999:0/9999:0;n=a"), 18);
        // Of another rule the first FROM is 0 again.
        due(faultOf("a=g/0:0/50:0;b=g/0:0/1:0;n=a"), NONE);
        due(faultOf("a=g/0:0/50:0;b=g/51:0;n=a"), 18);
        due(desk("a=g/0:0/9999:0;n=a").segment(0, 1, 0), 9999);
    }

    private static void ats() {
        sentence(SECTION, "AT 0 .. 9999 (units),");
        due(desk("a=g/0:0:0;n=a").segment(0, 0, 1), 0);
        due(desk("a=g/0:1:0;n=a").at(0, 0), UNIT);
        due(desk("a=g/0:9998:0;n=a").segment(0, 0, 1), 9998);
        due(desk("a=g/0:9999:0;n=a").segment(0, 0, 1), 9999);
        due(desk("a=g/0:9999:0;n=a").at(0, 0), 9999 * UNIT);
        due(faultOf("a=g/0:10000:0;n=a"), 10);
        due(faultOf("a=g/0:-1:0;n=a"), 6);
    }

    private static void slopes() {
        sentence(SECTION, "SLOPE 0 .. 1999 (thousandths).");
        due(desk("a=g/0:0;n=a").segment(0, 0, 2), 0);
        due(desk("a=g/0:1998;n=a").segment(0, 0, 2), 1998);
        due(desk("a=g/0:1999;n=a").segment(0, 0, 2), 1999);
        due(desk("a=g/0:5:1999;n=a").segment(0, 0, 2), 1999);
        due(desk("a=g/0:1999;n=a").at(0, 1), 1_999_000_000L);
        due(faultOf("a=g/0:2000;n=a"), 10);
        due(faultOf("a=g/0:5:2000;n=a"), 11);
        due(faultOf("a=g/0:5:9999;n=a"), 11);
        due(faultOf("a=g/0:5:-1;n=a"), 8);
    }

    private static void digits() {
        sentence(SECTION, "Numbers: one to four digits.");
        due(faultOf("k;n=g"), 1);
        due(faultOf("k1;n=g"), NONE);
        due(faultOf("k001;n=g"), NONE);
        due(faultOf("k0001;n=g"), NONE);
        due(faultOf("k00001;n=g"), 5);
        due(faultOf("a=g/000:1;n=g"), NONE);
        due(faultOf("a=g/0000:1;n=g"), NONE);
        due(faultOf("a=g/00000:1;n=g"), 8);
        due(faultOf("a=g/0:0001:1;n=g"), NONE);
        due(faultOf("a=g/0:00001:1;n=g"), 10);
        due(faultOf("a=g/0:1:0001;n=g"), NONE);
        due(faultOf("a=g/0:1:00001;n=g"), 12);
        due(faultOf("a=g/0:0001;n=g"), NONE);
        due(faultOf("a=g/0:00001;n=g"), 10);
        due(desk("k0010;n=g").rule(1), 10);
    }

    private static void blanks() {
        sentence(SECTION, "Blanks (32) may stand between all signs, not within a number.");
        due(faultOf(WHOLE), NONE);
        int within = WHOLE.indexOf("10") + 1;
        for (int i = 0; i <= WHOLE.length(); i++) {
            String ahead = WHOLE.substring(0, i);
            String behind = WHOLE.substring(i);
            due(faultOf(ahead + " " + behind), i == within ? i + 1 : NONE);
            due(faultOf(ahead + "   " + behind), i == within ? i + 3 : NONE);
            for (char other : new char[] {1, 9, 10, 13, 31, 33, 127, 128, 160, 255}) {
                due(faultOf(ahead + other + behind), i);
            }
        }
    }

    private static void tooShort() {
        sentence(SECTION, "FAULT: the first byte at which no such TEXT can go on (the length, if it ends too early, or has no n):");
        for (int length = 0; length < WHOLE.length(); length++) {
            due(faultOf(WHOLE.substring(0, length)), length);
            due(faultOf(WHOLE.substring(0, length) + "  "), length + 2);
            due(faultOf(WHOLE.substring(0, length) + "?"), length);
        }
        due(faultOf("k1;a=g/0:0;b=g/0:0"), 18);
        due(faultOf("k1;a=g/0:0;b=g/0:0;"), 19);
        due(faultOf("   "), 3);
        // Of two faults the first one counts.
        due(faultOf("k;?"), 1);
        due(faultOf("a=;?"), 2);
        due(faultOf("a=g;?"), 3);
        due(faultOf("a=g/;?"), 4);
        due(faultOf("a=g/0;?"), 5);
        due(faultOf("a=g/0:;?"), 6);
        due(faultOf("a=g/0:/?"), 6);
        due(faultOf("a=g/0:1:;?"), 8);
        due(faultOf("a=g/1:1;?"), 4);
        due(faultOf("a=g/0:1:2000;?"), 11);
        due(faultOf("a=g/0:2000;?"), 10);
        due(faultOf("n=;?"), 2);
    }

    private static void outOfBounds() {
        sentence(SECTION, "a number out of bounds is wrong at its last digit, a fifth digit itself, whatever stands ahead of it;");
        due(faultOf("k999;n=g"), NONE);
        due(faultOf("k1000;n=g"), 4);
        due(faultOf("k1000"), 4);
        due(faultOf("k 1000 ;n=g"), 5);
        due(faultOf("k10000;n=g"), 5);
        due(faultOf("k00000;n=g"), 5);
        due(faultOf("k99999;n=g"), 5);
        due(faultOf("k999999;n=g"), 5);
        due(faultOf("a=g/1:0;n=g"), 4);
        due(faultOf("a=g/10:0;n=g"), 5);
        due(faultOf("a=g/100:0;n=g"), 6);
        due(faultOf("a=g/1000:0;n=g"), 7);
        due(faultOf("a=g/10000:0;n=g"), 8);
        due(faultOf("a=g/0:0/99999:0;n=g"), 12);
        due(faultOf("a=g/0:99999:0;n=g"), 10);
        due(faultOf("a=g/0:99999;n=g"), 10);
        due(faultOf("a=g/0:0:2000;n=g"), 11);
        due(faultOf("a=g/0:0:2000"), 11);
        due(faultOf("a=g/0:0:20000;n=g"), 12);
    }

    private static void fromNotGreater() {
        sentence(SECTION, "a FROM that is not greater likewise at its last digit;");
        due(faultOf("a=g/0:0/100:0/99:0;n=g"), 15);
        due(faultOf("a=g/0:0/100:0/100:0;n=g"), 16);
        due(faultOf("a=g/0:0/100:0/0100:0;n=g"), 17);
        due(faultOf("a=g/0:0/100:0/00100:0;n=g"), 18);
        due(faultOf("a=g/0:0/100:0/101:0;n=g"), NONE);
        due(faultOf("a=g/0:0/100:0/ 5 :0;n=g"), 15);
        due(faultOf("a=g/0:0/100:0/5"), 14);
        due(faultOf("a=g/0:0/0:0;n=g"), 8);
        due(faultOf("a=g/0:0/00:0;n=g"), 9);
        due(faultOf("a=g/0:0/7:0/8:0/8:0;n=g"), 16);
        due(faultOf("a=g/0:0/7:0/8:0/9:0;n=g"), NONE);
    }

    private static void letterNotTold() {
        sentence(SECTION, "a letter that is not told ahead;");
        due(faultOf("n=a"), 2);
        due(faultOf("a=g/0:1;n=a"), NONE);
        due(faultOf("a=g/0:1;n=b"), 10);
        due(faultOf("a=g/0:1;n=g-b"), 12);
        due(faultOf("a=a/0:1;n=a"), 2);
        due(faultOf("a=b/0:1;b=g/0:1;n=a"), 2);
        due(faultOf("a=g/0:1;b=a+b/0:1;n=a"), 12);
        due(faultOf(SIX_RULES + "n=f"), NONE);
        due(faultOf(SIX_RULES + "n=h"), 50);
        due(faultOf(SIX_RULES + "n=n"), 50);
        due(faultOf(SIX_RULES + "n=A"), 50);
        due(faultOf(SIX_RULES + "n=`"), 50);
        // g and k are told by themselves.
        due(faultOf("n=g+k"), NONE);
    }

    private static void secondBenefit() {
        sentence(SECTION, "a second k;");
        due(faultOf("k1;n=g"), NONE);
        due(faultOf("k1;k2;n=g"), 3);
        due(faultOf("k1; k1;n=g"), 4);
        due(faultOf("k1;a=k/0:0;k2;n=g"), 11);
        due(faultOf("a=k/0:0;k1;k2;n=g"), 11);
        due(faultOf("k0;k0;n=g"), 3);
        due(faultOf("k1;k"), 3);
    }

    private static void notTheNextLetter() {
        sentence(SECTION, "a letter of a rule that is not the next one;");
        due(faultOf("b=g/0:1;n=g"), 0);
        due(faultOf("  f=g/0:1;n=g"), 2);
        due(faultOf("g=g/0:1;n=g"), 0);
        due(faultOf("`=g/0:1;n=g"), 0);
        due(faultOf("A=g/0:1;n=g"), 0);
        due(faultOf("a=g/0:1;a=g/0:1;n=g"), 8);
        due(faultOf("a=g/0:1;b=g/0:1;n=g"), NONE);
        due(faultOf("a=g/0:1;c=g/0:1;n=g"), 8);
        due(faultOf("k1;b=g/0:1;n=g"), 3);
        due(faultOf(SIX_RULES + "g=g/0:1;n=g"), 48);
    }

    private static void seventhAtItsSign() {
        sentence(SECTION, "a 7th SEGMENT, TERM (at its sign);");
        String six = "a=g/0:1/1:1/2:1/3:1/4:1/5:1";
        due(faultOf(six + ";n=a"), NONE);
        due(faultOf(six + "/6:1;n=a"), 27);
        due(faultOf(six + " /6:1;n=a"), 28);
        due(faultOf(six + "/"), 27);
        due(faultOf(six + "/0:9999999"), 27);
        due(faultOf(six + "?"), 27);
        due(faultOf("n=g+g+g+g+g"), NONE);
        due(faultOf("n=g+g+g+g+g+g"), NONE);
        due(faultOf("n=g+g+g+g+g+g+g"), 13);
        due(faultOf("n=g+g+g+g+g+g  -g"), 15);
        due(faultOf("n=g+g+g+g+g+g+"), 13);
        due(faultOf("a=g-g-g-g-g-g-g/0:0;n=a"), 13);
        due(faultOf("a=-g-g-g-g-g-g-g/0:0;n=a"), 14);
    }

    private static void slopeWithoutAt() {
        sentence(SECTION, "a SLOPE without AT that is above 1999 at what stands behind it (which is no :);");
        due(faultOf("a=g/0:1999;n=a"), NONE);
        due(faultOf("a=g/0:2000;n=a"), 10);
        due(faultOf("a=g/0:9999;n=a"), 10);
        due(faultOf("a=g/0:2000   ;n=a"), 13);
        due(faultOf("a=g/0:2000/1:0;n=a"), 10);
        due(faultOf("a=g/0:2000 / 1:0;n=a"), 11);
        due(faultOf("a=g/0:2000"), 10);
        due(faultOf("a=g/0:2000  "), 12);
        due(faultOf("a=g/0:2000 5;n=a"), 11);
        due(faultOf("a=g/0:2000x"), 10);
        due(faultOf("a=g/0:2000:0;n=a"), NONE);
        due(faultOf("a=g/0:2000 : 0;n=a"), NONE);
        due(faultOf("a=g/0:0/5:2000;n=a"), 14);
        // A fifth digit is wrong itself, and a seventh SEGMENT is not come to.
        due(faultOf("a=g/0:20000;n=a"), 10);
        due(faultOf("a=g/0:1/1:1/2:1/3:1/4:1/5:2000/6:1;n=a"), 30);
    }

    private static void tooDeep() {
        sentence(SECTION, "a rule that is too DEEP at its letter, once its SUM is told (ahead of its first SEGMENT);");
        due(faultOf(THREE_DEEP + "n=c"), NONE);
        due(faultOf(THREE_DEEP + "d=b/0:1;n=c"), NONE);
        due(faultOf(THREE_DEEP + "d=c/0:1;n=c"), 24);
        due(faultOf(THREE_DEEP + "   d = c/0:1;n=c"), 27);
        due(faultOf(THREE_DEEP + "d=-c/0:1;n=c"), 24);
        due(faultOf(THREE_DEEP + "d=g+k-c+a/0:1;n=c"), 24);
        due(faultOf(THREE_DEEP + "d=b/0:1;e=d/0:1;n=c"), 32);
        // Faults of its SUM come first, those of its SEGMENTS too late.
        due(faultOf(THREE_DEEP + "d=c+"), 28);
        due(faultOf(THREE_DEEP + "d=c+d/0:1;n=c"), 28);
        due(faultOf(THREE_DEEP + "d=c+g+g+g+g+g+g/0:1;n=c"), 37);
        due(faultOf(THREE_DEEP + "d=c"), 24);
        due(faultOf(THREE_DEEP + "d=c;n=c"), 24);
        due(faultOf(THREE_DEEP + "d=c/5:1;n=c"), 24);
        due(faultOf(THREE_DEEP + "d=c/99999"), 24);
        due(faultOf(THREE_DEEP + "d=b;n=c"), 27);
        // PAID is no rule.
        due(faultOf(THREE_DEEP + "n=c+c+c"), NONE);
    }

    private static void behindPaid() {
        sentence(SECTION, "anything behind n's SUM.");
        due(faultOf("n=g"), NONE);
        due(faultOf("n=g "), NONE);
        due(faultOf("n=g;"), 3);
        due(faultOf("n=g ;"), 4);
        due(faultOf("n=g/0:1"), 3);
        due(faultOf("n=g:"), 3);
        due(faultOf("n=g=g"), 3);
        due(faultOf("n=g5"), 3);
        due(faultOf("n=gg"), 3);
        due(faultOf("n=g;k1"), 3);
        due(faultOf("n=g" + (char) 255), 3);
        due(faultOf("n=g+g+g+g+g+g;"), 13);
    }

    private static void howDeep() {
        sentence(SECTION, "DEEP is a rule by one more than the DEEPEST TERM of its SUM (g, k: 0): 3 at most.");
        PayPromise x = desk("a=g/0:1;b=k/0:1;c=g-k/0:1;d=a+g/0:1;e=g-d+a/0:1;f=c/0:1;n=e");
        due(x.account(0, 2), 1);
        due(x.account(1, 2), 1);
        due(x.account(2, 2), 1);
        due(x.account(3, 2), 2);
        due(x.account(4, 2), 3);
        due(x.account(5, 2), 2);
        due(faultOf("a=g/0:1;b=a/0:1;c=b/0:1;d=g/0:1;n=c"), NONE);
        due(faultOf("a=g/0:1;b=a/0:1;c=b/0:1;d=g+a+b+c/0:1;n=c"), 24);
        due(faultOf("a=g/0:1;b=a/0:1;c=b/0:1;d=a+b/0:1;n=c"), NONE);
    }
}
