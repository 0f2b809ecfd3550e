import java.util.ArrayList;
import java.util.List;
import java.util.NoSuchElementException;

/** What the tests share: desks made from texts, answers held against those that are due, sentences of the document. */
abstract class Check {
    static final int NONE = -1;
    static final int NO_SUCH = -2;
    static final long HIDDEN = -9000000000000000000L;
    static final long UNIT = 1_000_000_000L;
    static final int LAST = 9999;

    /** PAID: 0 .. 9 at 0 .. 9, 5 .. 14 at 10 .. 19, from 20 on the WAGE less 20. */
    static final String TWO_CLIFFS = "a=g/0:0/10:5:0/20:20:0;n=g-a";
    /** KEPT is 120 from 1,200 on, else nothing. */
    static final String FROM_1200 = "a=g/0:0/1200:120:0;n=g-a";
    /**
     * Saw teeth of 50 WAGES, each from 0 to 49, led through three ACCOUNTS; the last one, from 8,950 on, goes on to
     * 1,049. The fourth ACCOUNT is 49 at all WAGES.
     */
    static final String TEETH = "a=g/0:1000/1500:0:1000/3000:0:1000/4500:0:1000/6000:0:1000/7500:0:1000;"
        + "b=a/0:1000/250:0:1000/500:0:1000/750:0:1000/1000:0:1000/1250:0:1000;"
        + "c=b/0:1000/50:0:1000/100:0:1000/150:0:1000/200:0:1000;d=k/0:49:0;n=c";

    /** Sentences under test so far, each behind the name of its section of the document. */
    static final List<String[]> SENTENCES = new ArrayList<>();

    private static int wrong = 0;
    private static String now = "";

    /** The answers behind this call are tests of these words of the document. */
    static void sentence(String section, String words) {
        SENTENCES.add(new String[] {section, words});
        now = section + ": " + words;
    }

    static void promise(String name) {
        now = "promise " + name;
    }

    static void due(long got, long want) {
        if (got != want) {
            tellWrong(Long.toString(got), Long.toString(want));
        }
    }

    static void due(boolean got, boolean want) {
        if (got != want) {
            tellWrong(Boolean.toString(got), Boolean.toString(want));
        }
    }

    static void due(String got, String want) {
        if (!got.equals(want)) {
            tellWrong(got, want);
        }
    }

    private static void tellWrong(String got, String want) {
        wrong++;
        StackTraceElement at = new Throwable().getStackTrace()[2];
        System.out.println(now + "\n    (" + at.getFileName() + ", line " + at.getLineNumber() + ") answered " + got
            + ", due is " + want);
    }

    static void fail(String text) {
        wrong++;
        System.out.println(text);
    }

    /** Ends the program with 1 if anything was wrong. */
    static void finish(String allIsWell) {
        System.out.println(wrong == 0 ? allIsWell : wrong + " answers are wrong");
        if (wrong != 0) {
            System.exit(1);
        }
    }

    /** Feeds a text to the TAPE: how many bytes it has then. */
    static int tell(PayPromise x, String text) {
        int length = x.count(0);
        for (int i = 0; i < text.length(); i += 20) {
            int[] n = numbersOf(text, i);
            length = x.feed(n[0], n[1], n[2], n[3], n[4]);
        }
        return length;
    }

    /** The numbers that feed the twenty bytes from one on. */
    static int[] numbersOf(String text, int from) {
        int[] n = new int[5];
        for (int j = 0; j < 20 && from + j < text.length(); j++) {
            n[j / 4] |= text.charAt(from + j) << (24 - 8 * (j % 4));
        }
        return n;
    }

    static PayPromise desk(String text) {
        PayPromise x = new PayPromise();
        tell(x, text);
        if (x.desk() == NONE) {
            fail("refused at " + x.fault() + ": " + text);
        }
        return x;
    }

    /** A desk with so many MONTHS of one WAGE. */
    static PayPromise desk(String text, int months, int wage) {
        PayPromise x = desk(text);
        for (int i = 0; i < months; i++) {
            x.month(wage);
        }
        return x;
    }

    static int faultOf(String text) {
        PayPromise x = new PayPromise();
        tell(x, text);
        return x.fault();
    }

    static boolean throwsNoSuch(PayPromise x, int account, int what) {
        try {
            x.account(account, what);
            return false;
        } catch (NoSuchElementException e) {
            return true;
        }
    }

    static String spelled(PayPromise x, int account) {
        StringBuilder s = new StringBuilder();
        int length = x.spell(account, NONE);
        for (int i = 0; i < length; i++) {
            s.append((char) x.spell(account, i));
        }
        return s.toString();
    }

    static void statusIs(PayPromise x, int noSuch, int bounds, int same, int full) {
        String got = x.status(0) + " " + x.status(1) + " " + x.status(2) + " " + x.status(3);
        String want = noSuch + " " + bounds + " " + same + " " + full;
        if (!got.equals(want)) {
            tellWrong("STATUS " + got, want);
        }
    }
}
