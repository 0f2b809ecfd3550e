/** Each promise of the document by answers reckoned by hand: ordinary inputs, edges, wrong inputs. */
public final class PromisesTest extends Check {
    private static final String TAXED = "a=g/0:0/1000:200/3000:400;n=g-a";
    private static final String CLIFF = "k100;a=g+k/0:0/2000:500:0;n=g-a";
    /** PAID rises by 1 to 100 at 100, falls by 0.999 to 1.099 at 199, is 1 from 200 to 300, rises by 1 again. */
    private static final String BUMPY = "a=g/0:0/100:1999/200:199:1000/300:299:0;n=g-a";

    public static void main(String[] args) {
        deskAndTape();
        faults();
        accountsAndSegments();
        values();
        pieces();
        promisedPay();
        cliffs();
        bits();
        byHand();
        months();
        monthsAhead();
        whatIf();
        searches();
        twoLines();
        spellings();
        statusOfRefusals();
        mosts();
        counts();
        withoutDesk();
        greatestNumbers();
        finish("all promises hold");
    }

    private static void deskAndTape() {
        promise("1");
        PayPromise x = new PayPromise();
        due(x.rule(0), NONE);
        due(x.count(0), 0);
        due(x.fault(), 0);

        promise("2");
        due(x.feed(0, 0, 0, 0, 0), 0);
        due(x.feed(0x6e003d67, 0, 0, 0, 0), 3);
        due(x.feed(0x20, 0x2000, 0x200000, 0x20000000, 0x20202020), 11);
        due(x.fault(), NONE);
        due(x.feed(-1, -1, -1, -1, -1), 31);
        due(x.fault(), 11);
        x = new PayPromise();
        due(tell(x, " ".repeat(399)), 399);
        due(x.feed(0x20200000, 0, 0, 0, 0), NONE);
        due(x.count(0), 399);
        due(x.feed(0, 0, 0, 0, 0x20), 400);
        due(x.feed(1, 0, 0, 0, 0), NONE);
        due(x.feed(0, 1, 0, 0, 0), NONE);
        due(x.feed(0, 0, 1, 0, 0), NONE);
        due(x.feed(0, 0, 0, 1, 0), NONE);
        due(x.feed(0, 0, 0, 0, 1), NONE);
        due(x.feed(0, 0, 0, 0, 0), 400);
        due(x.fault(), 400);

        promise("3");
        due(x.end(-1), false);
        due(x.end(401), false);
        due(x.end(400), true);
        due(x.end(7), true);
        due(x.count(0), 7);
        due(x.end(8), false);
        due(x.count(0), 7);
        due(x.end(0), true);
        due(tell(x, "n=g;"), 4);
        due(x.end(3), true);
        due(x.fault(), NONE);

        promise("5");
        due(x.desk(), 0);
        due(x.count(0), 0);
        due(x.desk(), NONE);
        tell(x, "a=g");
        due(x.desk(), NONE);
        due(x.count(0), 3);
        due(x.rule(0), 0);
        tell(x, "/0:5;b=a/0:6;n=b");
        x.month(4);
        x.benefit(9);
        x.benefit(-1);
        due(x.desk(), 2);
        due(x.rule(2), 0);
        due(x.rule(1), 0);
        due(x.status(1), 1);

        promise("6");
        x = desk("k7;a=g/0:0;b=a+k/0:0/100:50:1;n=g-a+k-b");
        due(x.rule(0), 2);
        due(x.rule(1), 7);
        due(x.rule(2), 0);
        x.month(1);
        x.month(2);
        due(x.rule(2), 2);
        due(x.rule(3), 4);
        due(x.rule(4), 1);
        due(x.rule(5), 0);
        due(x.rule(6), NONE);
        due(x.rule(-1), NONE);
        x = desk(BUMPY);
        due(x.rule(4), 4);
        due(x.rule(5), 100);
    }

    private static void faults() {
        promise("4");
        due(faultOf("n=g"), NONE);
        due(faultOf("  n =  - g + k - k "), NONE);
        due(faultOf(""), 0);
        due(faultOf("   "), 3);
        due(faultOf("n"), 1);
        due(faultOf("n= "), 3);
        due(faultOf("n=-"), 3);
        due(faultOf("n=+g"), 2);
        due(faultOf("n=--g"), 3);
        due(faultOf("n=gg"), 3);
        due(faultOf("n=g g"), 4);
        due(faultOf("n=g\t"), 3);
        due(faultOf("n=a"), 2);
        due(faultOf("n=g;k1"), 3);
        due(faultOf("n=g/0:0"), 3);
        due(faultOf("n=g+g+g+g+g+g"), NONE);
        due(faultOf("n=-g+g+g+g+g+g-g"), 14);
        due(faultOf("n=g+g+g+g+g+g +"), 14);
        due(faultOf("k;n=g"), 1);
        due(faultOf("k"), 1);
        due(faultOf("k5"), 2);
        due(faultOf("k5;"), 3);
        due(faultOf("k5 6;n=g"), 3);
        due(faultOf("k999;n=g"), NONE);
        due(faultOf("k0999;n=g"), NONE);
        due(faultOf("k1000;n=g"), 4);
        due(faultOf("k00999;n=g"), 5);
        due(faultOf("k12345;n=g"), 5);
        due(faultOf("k99999999;n=g"), 5);
        due(faultOf("k1;k2;n=g"), 3);
        due(faultOf("a=g/0:0;k1;n=a+k"), NONE);
        due(faultOf("k1;a=g/0:0;k2;n=a"), 11);
        due(faultOf(";n=g"), 0);
        due(faultOf("k1;;n=g"), 3);
        due(faultOf("b=g/0:0;n=g"), 0);
        due(faultOf("a=g/0:0;c=g/0:0;n=g"), 8);
        due(faultOf("a=g/0:0;a=g/0:0;n=g"), 8);
        due(faultOf("a=a/0:0;n=g"), 2);
        due(faultOf("a=b/0:0;n=g"), 2);
        due(faultOf("a=;n=g"), 2);
        due(faultOf("a=g;n=g"), 3);
        due(faultOf("a=g"), 3);
        due(faultOf("a=g/"), 4);
        due(faultOf("a=g/0"), 5);
        due(faultOf("a=g/0:"), 6);
        due(faultOf("a=g/0:1"), 7);
        due(faultOf("a=g/0:1;"), 8);
        due(faultOf("a=g/0:1:"), 8);
        due(faultOf("a=g/0:1:2:3;n=g"), 9);
        due(faultOf("a=g/0000:1;n=g"), NONE);
        due(faultOf("a=g/00000:1;n=g"), 8);
        due(faultOf("a=g/12:1;n=g"), 5);
        due(faultOf("a=g/12345:1;n=g"), 8);
        due(faultOf("a=g/0:0/9999:1;n=a"), NONE);
        due(faultOf("a=g/0:0/9999:1/9999:2;n=a"), 18);
        due(faultOf("a=g/0:0/150:1/15:2;n=a"), 15);
        due(faultOf("a=g/0:0/150:1/151:2;n=a"), NONE);
        due(faultOf("a=g/0:0/150:1/00151:2;n=a"), 18);
        due(faultOf("a=g/0:1999;n=a"), NONE);
        due(faultOf("a=g/0:2000;n=a"), 10);
        due(faultOf("a=g/0:2000  ;n=a"), 12);
        due(faultOf("a=g/0:2000  "), 12);
        due(faultOf("a=g/0:2000/5:1;n=a"), 10);
        due(faultOf("a=g/0:20000;n=a"), 10);
        due(faultOf("a=g/0:9999 : 1999;n=a"), NONE);
        due(faultOf("a=g/0:9999:2000;n=a"), 14);
        due(faultOf("a=g/0:5:20000;n=a"), 12);
        due(faultOf("a=g/0:1/1:1/2:1/3:1/4:1/5:1;n=a"), NONE);
        due(faultOf("a=g/0:1/1:1/2:1/3:1/4:1/5:1 /6:1;n=a"), 28);
        String six = "a=g/0:1;b=g/0:1;c=g/0:1;d=g/0:1;e=g/0:1;f=g/0:1;";
        due(faultOf(six + "n=f"), NONE);
        due(faultOf(six + "k3;n=f"), NONE);
        due(faultOf(six + "g=g/0:1;n=f"), 48);
        due(faultOf(six), 48);
        due(faultOf(six + "k3;"), 51);
        String deep = "a=g/0:1;b=a/0:1;c=b/0:1;";
        due(faultOf(deep + "d=b+a/0:1;n=d"), NONE);
        due(faultOf(deep + "d=g-c/0:1;n=d"), 24);
        due(faultOf(deep + " d=c"), 25);
        due(faultOf(deep + "d=c;n=d"), 24);
        due(faultOf(deep + "d=c+"), 28);
        due(faultOf(deep + "d=c+x/0:1;n=d"), 28);
        due(faultOf(deep + "d=c/5:1;n=d"), 24);
        due(faultOf(deep + "n=c+c"), NONE);
        due(faultOf("n=g" + (char) 200), 3);
        due(faultOf("N=g"), 0);
    }

    private static void accountsAndSegments() {
        promise("7");
        PayPromise x = desk("k1;a=g/0:0/10:5:3;b=a-k+g/0:1;c=-b/0:4;n=a");
        due(x.account(0, 0), 2);
        due(x.account(1, 0), 1);
        due(x.account(1, 1), 3);
        due(x.account(0, 2), 1);
        due(x.account(1, 2), 2);
        due(x.account(2, 2), 3);
        due(x.account(0, 3), 2);
        due(x.account(2, 3), 1);
        due(throwsNoSuch(x, 3, 0), true);
        due(throwsNoSuch(x, -1, 0), true);
        due(throwsNoSuch(x, 0, 4), true);
        due(throwsNoSuch(x, 0, -1), true);
        due(throwsNoSuch(new PayPromise(), 0, 0), true);

        promise("8");
        x = desk("k100;a=g-k/0:3:0/50:500/200:0:1;n=a");
        due(x.segment(0, 0, 0), 0);
        due(x.segment(0, 0, 1), 3);
        due(x.segment(0, 1, 0), 50);
        due(x.segment(0, 1, 1), NONE);
        due(x.segment(0, 1, 2), 500);
        due(x.segment(0, 2, 1), 0);
        due(x.segment(0, 0, 3), 150);
        due(x.segment(0, 1, 3), 150);
        due(x.segment(0, 2, 3), 9700);
        due(x.segment(0, 3, 0), NO_SUCH);
        due(x.segment(0, -1, 0), NO_SUCH);
        due(x.segment(1, 0, 0), NO_SUCH);
        due(x.segment(-1, 0, 0), NO_SUCH);
        due(x.segment(0, 0, 4), NO_SUCH);
        due(x.segment(0, 0, -1), NO_SUCH);
        due(new PayPromise().segment(0, 0, 0), NO_SUCH);
    }

    private static void values() {
        promise("9");
        PayPromise x = desk("k2;a=g-k/0:3:500/4:1/6:7:0;b=a+a/0:10;n=g-b-a");
        due(x.at(0, 0), 3 * UNIT);
        due(x.at(0, 2), 3 * UNIT);
        due(x.at(0, 3), 3_500_000_000L);
        due(x.at(0, 6), 5 * UNIT);
        due(x.at(0, 7), 5_001_000_000L);
        due(x.at(0, 8), 7 * UNIT);
        due(x.at(1, 7), 100_020_000L);
        due(x.at(-1, 7), 7 * UNIT - 100_020_000L - 5_001_000_000L);
        due(x.at(-1, 0), -60_000_000L - 3 * UNIT);
        due(x.at(0, 9999), 7 * UNIT);
        due(x.at(0, 10000), HIDDEN);
        due(x.at(0, -1), HIDDEN);
        due(x.at(2, 0), HIDDEN);
        due(x.at(-2, 0), HIDDEN);

        promise("10");
        due(x.sum(0, 0), -2 * UNIT);
        due(x.sum(1, 7), 10_002_000_000L);
        due(x.sum(-1, 7), HIDDEN);
        due(x.sum(2, 7), HIDDEN);
        due(x.sum(0, 10000), HIDDEN);
        due(x.sum(0, -1), HIDDEN);

        promise("11");
        due(x.which(0, 0), 0);
        due(x.which(0, 5), 0);
        due(x.which(0, 6), 1);
        due(x.which(0, 7), 1);
        due(x.which(0, 8), 2);
        due(x.which(-1, 8), NONE);
        due(x.which(2, 8), NONE);
        due(x.which(0, 10000), NONE);
        due(x.which(0, -1), NONE);

        promise("33");
        due(x.kept(7), 5_101_020_000L);
        due(x.kept(0), 3_060_000_000L);
        due(x.kept(-1), HIDDEN);
        due(x.kept(10000), HIDDEN);

        promise("17");
        x = desk(CLIFF);
        due(x.more(0), UNIT);
        due(x.more(1899), -499 * UNIT);
        due(x.more(9998), UNIT);
        due(x.more(9999), HIDDEN);
        due(x.more(-1), HIDDEN);
    }

    private static void pieces() {
        promise("12");
        // a: 0 at 0 .. 9, 5 at 10, 5.5 at 11 ..; at 9999 it jumps to 1: a PIECE of one WAGE.
        PayPromise x = desk("a=g/0:0/10:5:500/9999:1:0;n=-a");
        due(x.piece(0, 0, 0), 0);
        due(x.piece(0, 0, 1), 9);
        due(x.piece(0, 0, 2), 0);
        due(x.piece(0, 0, 3), 0);
        due(x.piece(0, 1, 0), 10);
        due(x.piece(0, 1, 1), 9998);
        due(x.piece(0, 1, 2), 5 * UNIT);
        due(x.piece(0, 1, 3), UNIT / 2);
        due(x.piece(0, 2, 0), 9999);
        due(x.piece(0, 2, 1), 9999);
        due(x.piece(0, 2, 2), UNIT);
        due(x.piece(0, 2, 3), 0);
        due(x.piece(-1, 1, 3), -UNIT / 2);
        due(x.piece(0, 3, 0), HIDDEN);
        due(x.piece(0, -1, 0), HIDDEN);
        due(x.piece(0, 0, 4), HIDDEN);
        due(x.piece(0, 0, -1), HIDDEN);
        due(x.piece(1, 0, 0), HIDDEN);
        due(x.piece(-2, 0, 0), HIDDEN);

        promise("20");
        due(x.jumps(0), 2);
        due(x.jumps(-1), 2);
        due(x.jumps(1), NONE);
        due(x.jumps(-2), NONE);
        due(desk(TAXED).jumps(0), 0);
        // 0 0 0 7 7 7 ..: the jump begins a PIECE.
        due(desk("a=g/0:0/3:7:0;n=a").jumps(0), 1);
        // 0 0 0 7 9 9 9: from 2 to 3 by 7, then 9 (PIECE 3 .. 4), then 9 9 9.
        x = desk("a=g/0:0/3:7:0/4:9:0;n=a");
        due(x.account(0, 3), 3);
        due(x.piece(0, 1, 0), 3);
        due(x.piece(0, 1, 1), 4);
        due(x.piece(0, 1, 3), 2 * UNIT);
        due(x.piece(0, 2, 0), 5);
        due(x.jumps(0), 1);

        promise("13");
        x = desk("a=g/0:0/10:5:500/9999:1:0;n=-a");
        due(x.pieceAt(0, 0), 0);
        due(x.pieceAt(0, 9), 0);
        due(x.pieceAt(0, 10), 1);
        due(x.pieceAt(-1, 9998), 1);
        due(x.pieceAt(0, 9999), 2);
        due(x.pieceAt(0, 10000), NONE);
        due(x.pieceAt(0, -1), NONE);
        due(x.pieceAt(1, 0), NONE);
        due(x.pieceAt(-2, 0), NONE);

        promise("40");
        due(x.kinks(0, 0), 1);
        due(x.kinks(0, 1), 1);
        due(x.kinks(-1, 0), 1);
        due(x.kinks(-1, 1), 1);
        due(x.kinks(0, 2), NONE);
        due(x.kinks(0, -1), NONE);
        due(x.kinks(1, 0), NONE);
        due(x.kinks(-2, 0), NONE);
        due(desk(TAXED).kinks(0, 0), 2);
        due(desk(TAXED).kinks(-1, 1), 2);
        due(desk("a=g/0:5/3:7:5;n=a").kinks(0, 0), 0);
    }

    private static void promisedPay() {
        promise("14");
        PayPromise x = desk(BUMPY);
        long high = 100 * UNIT;
        due(x.at(-1, 100), high);
        due(x.at(-1, 101), high - 999_000_000L);
        due(x.at(-1, 200), UNIT);
        due(x.at(-1, 300), UNIT);
        due(x.at(-1, 301), 2 * UNIT);
        due(x.promised(UNIT, 0), 102);
        due(x.promised(high, 0), 2);
        due(x.promised(high, 1), 100);
        due(x.promised(high, 2), 399);
        due(x.promised(high, 3), 100);
        due(x.promised(high + 1, 1), 400);
        due(x.promised(high + 1, 3), 100);
        due(x.promised(high - 1, 3), 101);
        due(x.promised(99 * UNIT, 3), 99);
        due(x.promised(99 * UNIT, 0), 2);
        due(x.promised(0, 0), 1);
        due(x.promised(0, 2), 0);
        due(x.promised(-1, 2), NONE);
        due(x.promised(-1, 3), NONE);
        due(x.promised(-1, 1), 0);
        due(x.promised(-1, 0), 0);
        due(x.promised(Long.MIN_VALUE, 1), 0);
        due(x.promised(Long.MIN_VALUE, 3), NONE);
        due(x.promised(Long.MAX_VALUE, 0), 0);
        due(x.promised(Long.MAX_VALUE, 1), NONE);
        due(x.promised(Long.MAX_VALUE, 2), 9999);
        due(x.promised(Long.MAX_VALUE, 3), 9999);
        due(x.promised(0, 4), NONE);
        due(x.promised(0, -1), NONE);

        due(desk("n=-g").promised(-9999 * UNIT, 3), 9999);
        due(desk("n=-g").promised(-5 * UNIT - 1, 3), 6);

        promise("15");
        due(x.exactly(UNIT, 0), 1);
        due(x.exactly(UNIT, 1), 200);
        due(x.exactly(UNIT, 101), 300);
        due(x.exactly(UNIT, 102), NONE);
        due(x.exactly(high, 1), 399);
        due(x.exactly(high, -1), NONE);
        due(x.exactly(high + 1, 0), NONE);
        due(x.exactly(Long.MIN_VALUE, 0), NONE);
    }

    private static void cliffs() {
        promise("16");
        PayPromise x = desk(BUMPY);
        due(x.cliff(0, 0), 101);
        due(x.cliff(0, 1), 999_000_000L);
        due(x.cliff(0, 2), 399);
        due(x.cliff(0, 3), 298);
        due(x.cliff(99, 0), 200);
        due(x.cliff(99, 1), 99_000_000L);
        due(x.cliff(99, 2), 301);
        due(x.cliff(99, 3), 101);
        due(x.cliff(100, 0), HIDDEN);
        due(x.cliff(-1, 0), HIDDEN);
        due(x.cliff(0, 4), HIDDEN);
        due(x.cliff(0, -1), HIDDEN);
        // PAID falls by each WAGE: none is BACK.
        x = desk("n=-g");
        due(x.cliff(0, 0), 1);
        due(x.cliff(0, 1), UNIT);
        due(x.cliff(0, 2), NONE);
        due(x.cliff(0, 3), 9999);
        due(x.cliff(9998, 0), 9999);
        due(x.cliff(9998, 3), 1);
        due(x.cliff(9999, 0), HIDDEN);
        due(x.rule(5), 9999);
    }

    private static void bits() {
        promise("18");
        PayPromise x = desk(TAXED);
        due(x.average(500), 0);
        due(x.average(2000), Double.doubleToLongBits(0.1));
        due(x.average(3001), Double.doubleToLongBits(400.4e9 / 3001e9));
        due(x.average(9999), Double.doubleToLongBits(3199.6e9 / 9999e9));
        due(x.average(10000), HIDDEN);
        due(x.average(-1), HIDDEN);
        due(desk("n=g+g").average(1), Double.doubleToLongBits(-1.0));
        due(desk("n=-g").average(3), Double.doubleToLongBits(2.0));
        due(desk("n=g+g+g+g").average(7), Double.doubleToLongBits(-3.0));
        // WAGE 0: the words ask for a division of doubles by 0.
        due(x.average(0), Double.doubleToLongBits(Double.NaN));
        due(desk("k5;n=k").average(0), Double.doubleToLongBits(Double.NEGATIVE_INFINITY));
        due(desk("k5;n=-k").average(0), Double.doubleToLongBits(Double.POSITIVE_INFINITY));

        promise("19");
        due(x.rate(0), Float.floatToIntBits(0f));
        due(x.rate(1), Float.floatToIntBits(200f));
        due(x.rate(2), Float.floatToIntBits(400f));
        due(x.rate(3), NONE);
        due(x.rate(-1), NONE);
        due(desk("n=g+g+g").rate(0), Float.floatToIntBits(-2000f));
        due(desk("a=g/0:1;b=a/0:1;c=b/0:1;n=g-c").rate(0), Float.floatToIntBits(0.000001f));
        due(desk("a=g/0:123;b=a/0:457;n=b").rate(0), Float.floatToIntBits((float) 943_789_000L / 1e6f));
        due(desk("a=g/0:0/9999:5:0;n=a").rate(1), Float.floatToIntBits(1000f));
    }

    private static void byHand() {
        promise("21");
        PayPromise x = desk("a=g/0:100/10:200/20:300;n=g-a");
        due(x.bend(0, 1, 2, 400), 200);
        due(x.at(0, 20), 5 * UNIT);
        due(x.at(0, 21), 5_300_000_000L);
        due(x.bend(0, 2, 0, 30), 20);
        due(x.at(0, 30), 9 * UNIT);
        due(x.bend(0, 1, 1, 0), NONE);
        due(x.segment(0, 1, 1), 0);
        due(x.at(0, 30), 8 * UNIT);
        due(x.bend(0, 1, 1, 9999), 0);
        due(x.bend(0, 1, 1, 9999), NO_SUCH);
        due(x.status(2), 1);
        due(x.bend(0, 1, 1, 10000), NO_SUCH);
        due(x.bend(0, 1, 1, -1), NO_SUCH);
        due(x.bend(0, 2, 1, -1), NO_SUCH);
        due(x.bend(0, 1, 2, 2000), NO_SUCH);
        due(x.bend(0, 1, 2, -1), NO_SUCH);
        due(x.bend(0, 1, 0, 0), NO_SUCH);
        due(x.bend(0, 1, 0, 30), NO_SUCH);
        due(x.bend(0, 2, 0, 10), NO_SUCH);
        due(x.bend(0, 2, 0, 10000), NO_SUCH);
        due(x.bend(0, 0, 0, 0), NO_SUCH);
        due(x.bend(0, 0, 0, 5), NO_SUCH);
        due(x.status(1), 11);
        due(x.bend(0, 2, 0, 30), NO_SUCH);
        due(x.status(2), 2);
        due(x.bend(0, 1, 0, 29), 10);
        due(x.bend(0, 2, 0, 9999), 30);
        due(x.bend(0, 0, 2, 1999), 100);
        due(x.bend(0, 3, 2, 5), NO_SUCH);
        due(x.bend(1, 0, 2, 5), NO_SUCH);
        due(x.bend(-1, 0, 2, 5), NO_SUCH);
        due(x.bend(0, 0, 3, 5), NO_SUCH);
        due(x.bend(0, 0, -1, 20000), NO_SUCH);
        due(x.status(0), 5);
        due(x.status(1), 11);
        due(x.status(2), 2);

        promise("22");
        x = desk("k3;a=k/0:1000;n=g+k-a");
        due(x.benefit(4), 3);
        due(x.rule(1), 4);
        due(x.at(0, 5), 4 * UNIT);
        due(x.benefit(4), NONE);
        due(x.benefit(-1), NONE);
        due(x.benefit(1000), NONE);
        due(x.benefit(999), 4);
        due(x.benefit(0), 999);
        due(x.status(1), 2);
        due(x.status(2), 1);
        due(desk("n=k").benefit(1), 0);
        due(desk("n=k").benefit(0), NONE);
    }

    private static void months() {
        // KEPT 100 from 1200 on, else 0.
        String text = "a=g/0:0/1200:100:0;n=g-a";
        promise("23");
        PayPromise x = desk(text);
        due(x.month(120), 120 * UNIT - 8_333_333_333L);
        due(x.month(0), 8_333_333_333L);
        due(x.month(300), 300 * UNIT - 25 * UNIT);
        due(x.month(10000), HIDDEN);
        due(x.month(-1), HIDDEN);
        due(x.status(1), 2);
        // KEPT below 0 is cut downwards.
        due(desk("k1;n=g+k").month(5), 5 * UNIT + 83_333_334L);

        promise("25");
        due(x.year(0, 0), 120);
        due(x.year(1, 0), 0);
        due(x.year(2, 1), 275 * UNIT);
        due(x.year(1, 1), 8_333_333_333L);
        due(x.year(0, 2), 8_333_333_333L);
        due(x.year(1, 2), 0);
        due(x.year(2, 2), 25 * UNIT);
        due(x.year(3, 0), HIDDEN);
        due(x.year(-1, 0), HIDDEN);
        due(x.year(0, 3), HIDDEN);
        due(x.year(0, -1), HIDDEN);

        promise("26");
        due(x.sofar(0), 420);
        due(x.sofar(1), 395 * UNIT);
        due(x.sofar(2), 1);
        due(x.sofar(3), 1);
        due(x.sofar(4), HIDDEN);
        due(x.sofar(-1), HIDDEN);
        due(desk(text).sofar(0), 0);
        due(desk(text).sofar(1), 0);
        due(desk(text).sofar(2), 0);
        due(desk(text).sofar(3), NONE);
        PayPromise same = desk("n=g");
        same.month(5);
        same.month(5);
        due(same.sofar(3), 0);

        promise("25");
        x.bend(0, 1, 1, 120);
        due(x.year(0, 2), 10 * UNIT);
        due(x.year(1, 1), 10 * UNIT);

        promise("24");
        due(x.takeBack(), 300);
        due(x.takeBack(), 0);
        due(x.rule(2), 1);
        due(x.takeBack(), 120);
        due(x.takeBack(), NONE);
        due(x.status(0), 1);

        promise("23");
        for (int i = 0; i < 12; i++) {
            due(x.month(9999), 9989 * UNIT);
        }
        due(x.month(0), HIDDEN);
        due(x.month(10000), HIDDEN);
        due(x.status(3), 1);
        due(x.status(1), 3);
        due(x.rule(2), 12);
    }

    private static void monthsAhead() {
        String text = FROM_1200;
        promise("27");
        PayPromise x = desk(text);
        due(x.nextMonth(99 * UNIT), 99);
        due(x.nextMonth(99 * UNIT + 1), 110);
        due(x.nextMonth(100 * UNIT), 110);
        due(x.nextMonth(0), 0);
        due(x.nextMonth(Long.MIN_VALUE), 0);
        due(x.nextMonth(9989 * UNIT), 9999);
        due(x.nextMonth(9989 * UNIT + 1), NONE);
        due(x.nextMonth(Long.MAX_VALUE), NONE);
        x.month(150);
        due(x.nextMonth(10 * UNIT), 0);
        due(x.nextMonth(59 * UNIT), 49);
        due(x.nextMonth(60 * UNIT), 70);

        promise("28");
        // All WAGES 150 + 11 W: nothing is KEPT to 1199 (W 95), 120 from 1200 on (W 96).
        due(x.level(1195 * UNIT), 95);
        due(x.level(1195 * UNIT + 1), 106);
        due(x.level(0), 0);
        due(x.level(Long.MIN_VALUE), 0);
        due(x.level((150 + 11 * 9999 - 120) * UNIT), 9999);
        due(x.level((150 + 11 * 9999 - 120) * UNIT + 1), NONE);

        promise("29");
        due(x.dueAhead(), 10 * UNIT);
        due(desk(text).dueAhead(), 0);
        due(desk("k7;n=k").dueAhead(), 7 * UNIT);
        PayPromise early = desk(text);
        early.month(9999);
        due(early.dueAhead(), 10 * UNIT - 120 * UNIT);

        promise("41");
        due(x.until(95, 140 * UNIT), 0);
        due(x.until(95, 140 * UNIT + 1), 1);
        due(x.until(95, 1195 * UNIT), 11);
        due(x.until(95, 1195 * UNIT + 1), NONE);
        due(x.until(0, 150 * UNIT), 1);
        due(x.until(-1, 0), NONE);
        due(x.until(10000, 0), NONE);

        promise("43");
        x.month(20);
        // 150, 20: DUE 10, 0. With 30 ahead of the first: 30, 150, 20: DUE behind two 0, behind one 0.
        due(x.putIn(0, 30, 0), 150 * UNIT);
        // With 90 put in: 240 behind two: DUE 20; 260 behind three: 0.
        due(x.putIn(0, 90, 1), 40 * UNIT);
        due(x.putIn(1, 90, 1), 40 * UNIT);
        due(x.putIn(1, 90, 0), HIDDEN);
        due(x.putIn(2, 90, 2), HIDDEN);
        due(x.putIn(0, 90, 2), HIDDEN);
        due(x.putIn(-1, 90, 0), HIDDEN);
        due(x.putIn(0, -1, 0), HIDDEN);
        due(x.putIn(0, 10000, 0), HIDDEN);
        for (int i = 0; i < 9; i++) {
            x.month(1);
        }
        due(x.putIn(0, 5, 10), UNIT);
        x.month(1);
        due(x.putIn(0, 5, 0), HIDDEN);

        promise("27");
        due(x.nextMonth(0), NONE);
        promise("28");
        due(x.level(0), NONE);
        promise("29");
        due(x.dueAhead(), 0);
        promise("41");
        due(x.until(5, 0), 0);
        due(x.until(5, 181 * UNIT), NONE);

        promise("31");
        x = desk(text);
        due(x.both(90, 109), 199 * UNIT);
        due(x.both(90, 110), 180 * UNIT);
        due(x.both(9999, 9999), 19978 * UNIT);
        due(x.both(0, 0), 0);
        due(x.both(-1, 0), HIDDEN);
        due(x.both(0, 10000), HIDDEN);
    }

    private static void whatIf() {
        String text = "k10;a=g+k/0:100/100:200;b=a/0:0/5:1:1000;n=g-a-b";
        PayPromise x = desk(text);
        // At 100: SUM of a 110: 10 + 2 = 12; b: 1 + 7 = 8; PAID 80.
        due(x.at(-1, 100), 80 * UNIT);

        promise("30");
        due(x.would(0, 0, 0, 100), 98 * UNIT);
        due(x.would(0, 1, 300, 100), 78 * UNIT);
        due(x.would(1, 1, 0, 100), 87 * UNIT);
        due(x.would(0, 0, 100, 100), 80 * UNIT);
        due(x.would(0, 0, 1999, 0), (10_000 - 19_990 - 1_000 - 14_990 - 10_000) * 1_000_000L);
        due(x.would(0, 0, 2000, 100), HIDDEN);
        due(x.would(0, 0, -1, 100), HIDDEN);
        due(x.would(0, 2, 0, 100), HIDDEN);
        due(x.would(0, -1, 0, 100), HIDDEN);
        due(x.would(2, 0, 0, 100), HIDDEN);
        due(x.would(-1, 0, 0, 100), HIDDEN);
        due(x.would(0, 0, 0, 10000), HIDDEN);
        due(x.would(0, 0, 0, -1), HIDDEN);
        due(x.at(-1, 100), 80 * UNIT);
        due(x.segment(0, 0, 2), 100);

        promise("32");
        due(x.without(0, 100), 100 * UNIT);
        due(x.without(1, 100), 88 * UNIT);
        due(x.without(2, 100), HIDDEN);
        due(x.without(-1, 100), HIDDEN);
        due(x.without(0, 10000), HIDDEN);
        due(x.without(0, -1), HIDDEN);

        promise("38");
        // One WAGE more at 100 brings 1 - 0.2 - 0.2; with a held 1; with b held 0.8.
        due(x.through(0, 100), -400_000_000L);
        due(x.through(1, 100), -200_000_000L);
        due(x.through(0, 9998), -400_000_000L);
        due(x.through(0, 9999), HIDDEN);
        due(x.through(0, -1), HIDDEN);
        due(x.through(2, 0), HIDDEN);
        due(x.through(-1, 0), HIDDEN);

        promise("37");
        // At 100 b and a by the BENEFIT K: 100 - (10 + K / 5) - (6 + K / 5) = 84 - 2 K / 5.
        due(x.inKind(80 * UNIT, 100), 10);
        due(x.inKind(80 * UNIT + 1, 100), 9);
        due(x.inKind(84 * UNIT, 100), 0);
        due(x.inKind(84 * UNIT + 1, 100), NONE);
        due(x.inKind(Long.MIN_VALUE, 100), 999);
        due(x.inKind(0, 10000), NONE);
        due(x.inKind(0, -1), NONE);
        due(desk("n=k").inKind(999 * UNIT, 0), 999);
        due(x.rule(1), 10);
    }

    private static void searches() {
        promise("34");
        PayPromise x = desk("k5;a=g-k/0:0/10:1;b=k/0:1;c=g/0:0;n=g");
        due(x.first(0), 16);
        due(x.first(1), 0);
        due(x.first(2), NONE);
        due(x.first(3), NONE);
        due(x.first(-1), NONE);

        promise("35");
        x = desk(BUMPY);
        due(x.raise(50, 50 * UNIT), 100);
        due(x.raise(50, 50 * UNIT + 1), 400);
        due(x.raise(101, 0), 101);
        due(x.raise(101, 1), 399);
        due(x.raise(200, UNIT), 301);
        due(x.raise(9999, 0), 9999);
        due(x.raise(9999, 1), NONE);
        due(x.raise(0, Long.MAX_VALUE), NONE);
        due(x.raise(0, -1), NONE);
        due(x.raise(-1, 0), NONE);
        due(x.raise(10000, 0), NONE);
        due(desk("n=-g-g").raise(9999, Long.MAX_VALUE), NONE);

        promise("42");
        x = desk(TAXED);
        due(x.free(0), 1000);
        due(x.free(100), 2000);
        due(x.free(99), 1980);
        due(x.free(1000), 9999);
        due(x.free(1001), NONE);
        due(x.free(-1), NONE);
        due(desk("k5;n=-k").free(999), NONE);
        due(desk("k5;n=-k").free(1000), NONE);
        due(desk("n=-g").free(1000), 0);
        due(desk("k5;n=k").free(0), 5);
    }

    private static void twoLines() {
        // a: 0 1 2 .., b: 5 at all WAGES, PAID: a less b.
        PayPromise x = desk("a=g/0:1000;b=k/0:5:0;n=a-b");
        promise("36");
        due(x.over(0, 1, 0), 5);
        due(x.over(0, 1, 5), 5);
        due(x.over(0, 1, 77), 77);
        due(x.over(1, 0, 0), 0);
        due(x.over(1, 0, 5), 5);
        due(x.over(1, 0, 6), NONE);
        due(x.over(-1, 1, 0), 10);
        due(x.over(0, -1, 9999), 9999);
        due(x.over(-1, -1, 3), 3);
        due(x.over(2, 0, 0), NONE);
        due(x.over(0, 2, 0), NONE);
        due(x.over(-2, 0, 0), NONE);
        due(x.over(0, -2, 0), NONE);
        due(x.over(0, 1, -1), NONE);
        due(x.over(0, 1, 10000), NONE);

        promise("39");
        due(x.crossings(0, 1, 0), 2);
        due(x.crossings(0, 1, 1), 9994 * UNIT);
        due(x.crossings(0, 1, 2), 9999);
        due(x.crossings(1, 0, 0), 2);
        due(x.crossings(0, -1, 0), 0);
        due(x.crossings(0, -1, 1), 5 * UNIT);
        due(x.crossings(0, -1, 2), 0);
        due(x.crossings(1, 1, 0), 0);
        due(x.crossings(1, 1, 1), 0);
        due(x.crossings(1, 1, 2), 0);
        due(x.crossings(0, 1, 3), HIDDEN);
        due(x.crossings(0, 1, -1), HIDDEN);
        due(x.crossings(2, 1, 0), HIDDEN);
        due(x.crossings(0, 2, 0), HIDDEN);
        due(x.crossings(-2, 0, 0), HIDDEN);
        // 3, 6, 9 .. less 5 leaps over 0; 9, 5, 1, 9 less 5: each change once.
        due(desk("a=g+g/0:3:1500;b=k/0:5:0;n=g").crossings(0, 1, 0), 1);
        x = desk("a=g/0:9:0/3:5:0/4:1:0/5:9:0;b=k/0:5:0;n=g");
        due(x.crossings(0, 1, 0), 3);
        due(x.crossings(0, 1, 1), 4 * UNIT);
        due(x.crossings(0, 1, 2), 0);
    }

    private static void spellings() {
        promise("44");
        PayPromise x = desk(" k 07; a = - g + k - g / 000 : 0010 / 10:0:05/0990: 9999 :1999;b=a/0:0 ; n = b - a + g ");
        due(spelled(x, 0), "a=-g+k-g/0:10/10:0:5/990:9999:1999");
        due(spelled(x, 1), "b=a/0:0");
        due(spelled(x, -1), "n=b-a+g");
        due(x.spell(-1, 7), NONE);
        due(x.spell(-1, -2), NONE);
        due(x.spell(2, -1), NONE);
        due(x.spell(-2, -1), NONE);
        due(x.spell(0, Integer.MAX_VALUE), NONE);
        x.bend(0, 0, 1, 0);
        x.bend(0, 1, 0, 500);
        x.bend(0, 1, 2, 1000);
        due(spelled(x, 0), "a=-g+k-g/0:0:10/500:0:1000/990:9999:1999");
    }

    private static void statusOfRefusals() {
        promise("45");
        PayPromise x = new PayPromise();
        x.bend(0, 0, 2, 2000);
        x.benefit(1000);
        x.month(-1);
        x.takeBack();
        due(x.status(0), 4);
        due(x.status(1), 0);
        tell(x, "k5;a=g/0:0;n=a");
        x.desk();
        due(x.status(0), 4);
        x.benefit(5);
        x.benefit(1000);
        x.bend(0, 0, 2, 0);
        x.bend(0, 0, 0, 0);
        due(x.status(0), 4);
        due(x.status(1), 2);
        due(x.status(2), 2);
        due(x.status(3), 0);
        for (int i = 0; i < 13; i++) {
            x.month(1);
        }
        due(x.status(3), 1);
        due(x.status(4), NONE);
        due(x.status(-1), NONE);
        // What only asks refuses nothing.
        x.year(50, 0);
        x.would(9, 9, 9, 9);
        x.putIn(9, 9, 9);
        due(x.status(0), 4);
    }

    private static void mosts() {
        promise("46");
        PayPromise x = desk(BUMPY);
        due(x.most(0), (9999 - 299) * UNIT);
        due(x.most(1), 9999);
        due(x.most(2), 0);
        due(x.most(3), 0);
        due(x.most(4), 100);
        due(x.most(5), 1);
        due(x.most(6), 298);
        due(x.most(7), 298);
        due(x.most(8), 3);
        due(x.most(9), -999_000_000L);
        due(x.most(10), HIDDEN);
        due(x.most(-1), HIDDEN);
        // Two TRAPS apart: 10 to 13, and 100 to the end (all CLIFFS from 104 on lie in it).
        x = desk("a=g/0:0/10:5:0/100:9999:0/103:9999:1999;n=g-a");
        due(x.most(6), 9900);
        due(x.most(7), 9904);
        due(x.most(0), 94 * UNIT);
        due(x.most(1), 99);
        due(x.most(2), -9896 * 1_999_000_000L);
        due(x.most(3), 9999);
        due(x.most(4), 99);
        // BACK at the last WAGE of a PIECE, and at once the next TRAP: 10 to 13, 15 to 18.
        x = desk("a=g/0:0/10:5:0/15:10:0;n=g-a");
        due(x.most(6), 4);
        due(x.most(7), 8);
        // Of several the first: pieces of the same length, the lowest WAGE with the most and the least PAID.
        x = desk("a=g/0:0/5000:7:0;n=a");
        due(x.most(8), 0);
        due(x.most(1), 5000);
        due(x.most(3), 0);
        due(x.most(5), 2);
        due(x.most(6), 0);
        due(x.most(7), 0);
        due(x.most(4), 0);
        due(x.most(9), 0);
        // Of several WAGES with the least MORE the lowest: two falls by 5, then a slope down and a fall by as much.
        x = desk("a=g/0:0/10:5:0/20:10:0;n=-a");
        due(x.most(4), 9);
        due(x.most(9), -5 * UNIT);
        x = desk("a=g/0:0/10:1000/20:10:0/30:11:0;n=-a");
        due(x.most(4), 10);
        due(x.most(9), -UNIT);
        // A last PIECE of one WAGE is not FLAT.
        due(desk("a=g/0:1/9999:50:0;n=a").most(5), 0);
    }

    private static void counts() {
        promise("47");
        PayPromise x = desk("a=g/0:0/5:6;b=a/0:1/7:7:7/9:1;n=b");
        due(x.count(0), 0);
        due(x.count(1), 5);
        due(x.count(2), x.account(0, 3) + x.account(1, 3));
        due(x.count(3), NONE);
        due(x.count(-1), NONE);
        tell(x, "abc");
        due(x.count(0), 3);
        due(desk("n=g").count(1), 0);
        due(desk("n=g").count(2), 0);
    }

    private static void withoutDesk() {
        promise("without a desk");
        PayPromise x = new PayPromise();
        due(x.rule(0), NONE);
        due(x.segment(0, 0, 0), NO_SUCH);
        due(x.at(-1, 0), HIDDEN);
        due(x.sum(0, 0), HIDDEN);
        due(x.which(0, 0), NONE);
        due(x.piece(-1, 0, 0), HIDDEN);
        due(x.pieceAt(-1, 0), NONE);
        due(x.promised(0, 0), NONE);
        due(x.exactly(0, 0), NONE);
        due(x.cliff(0, 0), HIDDEN);
        due(x.more(0), HIDDEN);
        due(x.average(1), HIDDEN);
        due(x.rate(0), NONE);
        due(x.jumps(-1), NONE);
        due(x.year(0, 0), HIDDEN);
        due(x.sofar(0), HIDDEN);
        due(x.nextMonth(0), NONE);
        due(x.level(0), NONE);
        due(x.dueAhead(), HIDDEN);
        due(x.would(0, 0, 0, 0), HIDDEN);
        due(x.both(0, 0), HIDDEN);
        due(x.without(0, 0), HIDDEN);
        due(x.kept(0), HIDDEN);
        due(x.first(0), NONE);
        due(x.raise(0, 0), NONE);
        due(x.over(-1, -1, 0), NONE);
        due(x.inKind(0, 0), NONE);
        due(x.through(0, 0), HIDDEN);
        due(x.crossings(-1, -1, 0), HIDDEN);
        due(x.kinks(-1, 0), NONE);
        due(x.until(0, 0), NONE);
        due(x.free(0), NONE);
        due(x.putIn(0, 0, 0), HIDDEN);
        due(x.spell(-1, -1), NONE);
        due(x.most(0), HIDDEN);
        due(x.count(0), 0);
        due(x.count(1), NONE);
        due(x.count(2), NONE);
        due(x.status(0), 0);
    }

    private static void greatestNumbers() {
        promise("9, with the greatest numbers");
        PayPromise x = desk("a=g+g+g+g+g+g/0:9999:1999;b=a+a+a+a+a+a/0:9999:1999;c=b+b+b+b+b+b/0:9999:1999;n=c+c+c+c+c+c");
        due(x.at(0, 9999), 129_927_006_000_000L);
        due(x.at(1, 9999), 1_568_343_509_964_000L);
        due(x.at(2, 9999), 18_820_711_058_508_216L);
        due(x.at(-1, 9999), 112_924_266_351_049_296L);
        due(x.piece(-1, 0, 1), 9999);
        due(x.most(0), 112_924_266_351_049_296L);
        due(x.promised(112_924_266_351_049_296L, 1), 9999);
        due(x.raise(9999, Long.MAX_VALUE), NONE);
        for (int i = 0; i < 12; i++) {
            x.month(9999);
        }
        due(x.year(11, 2), 9999 * UNIT - 112_924_266_351_049_296L);
        x = desk("a=g+g+g+g+g+g/0:9999:1999;b=a+a+a+a+a+a/0:9999:1999;c=b+b+b+b+b+b/0:9999:1999;n=-c-c-c-c-c-c");
        due(x.raise(9999, Long.MAX_VALUE), NONE);
        due(x.crossings(-1, 2, 1), 131_744_977_409_557_512L);
        due(x.promised(Long.MAX_VALUE, 3), 0);
        due(x.promised(Long.MIN_VALUE, 2), NONE);
    }
}
