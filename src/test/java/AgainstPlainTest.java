import java.util.NoSuchElementException;
import java.util.Random;

/** Random runs of calls on PayPromise and on PlainDesk: every answer must be the same. */
public final class AgainstPlainTest {
    private static final long THROWN = Long.MIN_VALUE;
    private static final String SIGNS = " ;=+-/:0123456789abcdefgkn";
    private final Random random;
    private PayPromise made = new PayPromise();
    private PlainDesk plain = new PlainDesk();
    private final StringBuilder story = new StringBuilder();
    private int wrong = 0;

    private AgainstPlainTest(long seed) {
        random = new Random(seed);
    }

    public static void main(String[] args) {
        int runs = args.length > 0 ? Integer.parseInt(args[0]) : 60;
        long seed = args.length > 1 ? Long.parseLong(args[1]) : 20261117;
        AgainstPlainTest faults = new AgainstPlainTest(seed);
        faults.manyTexts(runs * 200);
        int wrong = faults.wrong;
        for (int i = 0; i < runs && wrong == 0; i++) {
            AgainstPlainTest test = new AgainstPlainTest(seed + 1 + i);
            test.oneRun(i % 5);
            wrong += test.wrong;
        }
        System.out.println(wrong == 0 ? "no difference" : wrong + " differences");
        if (wrong != 0) {
            System.exit(1);
        }
    }

    private int below(int n) {
        return random.nextInt(n);
    }

    private boolean chance(int percent) {
        return below(100) < percent;
    }

    private void same(String call, long got, long due) {
        story.append(call).append(" -> ").append(due).append('\n');
        if (got != due) {
            wrong++;
            if (wrong < 4) {
                System.out.println(call + " answered " + got + ", due is " + due + "; the run:\n" + story);
            }
        }
    }

    // ---- texts

    private String number(int low, int high) {
        int n = low >= high ? low : chance(15) ? high : chance(15) ? low : low + below(high - low + 1);
        String s = Integer.toString(n);
        while (s.length() < 4 && chance(4)) {
            s = "0" + s;
        }
        return s;
    }

    private String terms(int accounts, int[] deep, int atMost) {
        StringBuilder s = new StringBuilder();
        int many = 1 + below(chance(70) ? 3 : 6);
        for (int i = 0; i < many; i++) {
            boolean minus = chance(i == 0 ? 10 : 45);
            s.append(minus ? "-" : i > 0 ? "+" : "");
            char letter = i == 0 && chance(60) ? 'g' : chance(25) ? 'g' : chance(15) ? 'k' : 'x';
            if (letter == 'x') {
                int a = accounts == 0 ? -1 : below(accounts);
                letter = a >= 0 && deep[a] <= atMost ? (char) ('a' + a) : 'g';
            }
            s.append(letter);
        }
        return s.toString();
    }

    private int depthOf(String sum, int[] deep) {
        int d = 0;
        for (char c : sum.toCharArray()) {
            if (c >= 'a' && c <= 'f') {
                d = Math.max(d, deep[c - 'a']);
            }
        }
        return d + 1;
    }

    private String segments(int style) {
        int many = 1 + below(6);
        int span = style == 0 ? 30 : style == 1 ? 300 : 2500;
        StringBuilder s = new StringBuilder();
        int from = 0;
        for (int i = 0; i < many && from <= 9999; i++) {
            s.append("/").append(from).append(":");
            if (chance(style == 2 ? 80 : 35)) {
                s.append(number(0, style == 3 ? 9999 : span)).append(":");
            }
            s.append(chance(20) ? "0" : chance(10) ? "1000" : chance(10) ? "1999" : number(0, 1999));
            from += 1 + below(span);
        }
        return s.toString();
    }

    /** Saw teeth led into saw teeth: lines of some hundred PIECES, which rise and fall. */
    private String teeth() {
        StringBuilder s = new StringBuilder();
        int level = 1 + below(2);
        int accounts = level + 1 + below(4);
        for (int i = 0; i < accounts; i++) {
            int low = i < 2 * level ? 0 : level;
            s.append((char) ('a' + i)).append('=');
            s.append(i < level ? 'g' : (char) ('a' + low + below(level)));
            if (i >= level && chance(30)) {
                s.append(chance(50) ? "-" : "+").append("gk".charAt(below(2)));
            }
            int span = i < level ? 1700 : 20 + below(200);
            for (int k = 0, from = 0; k < 5 && from <= 9999; k++) {
                s.append('/').append(from).append(':').append(below(i < level ? 999 : 99)).append(':').append(below(1999));
                from += 1 + span * 3 / 4 + below(span / 2);
            }
            s.append(';');
        }
        s.append("n=").append(chance(80) ? "g" : "k");
        for (int i = 1 + below(3); i > 0; i--) {
            s.append(chance(50) ? "-" : "+").append((char) ('a' + below(accounts)));
        }
        return s.length() > 400 ? teeth() : s.toString();
    }

    private String text(int style) {
        if (style == 4) {
            return teeth();
        }
        int accounts = below(7);
        int[] deep = new int[6];
        StringBuilder s = new StringBuilder();
        int kAt = chance(60) ? below(accounts + 1) : -1;
        for (int i = 0; i <= accounts; i++) {
            if (i == kAt) {
                s.append("k").append(number(0, 999)).append(";");
            }
            if (i < accounts) {
                String sum = terms(i, deep, chance(3) ? 3 : 2);
                deep[i] = depthOf(sum, deep);
                s.append((char) ('a' + i)).append("=").append(sum).append(segments(style)).append(";");
            }
        }
        s.append("n=").append(chance(70) && accounts > 0 ? "g-" + (char) ('a' + accounts - 1) : terms(accounts, deep, 3));
        String plainText = s.toString();
        return chance(30) ? blanked(plainText) : plainText;
    }

    private String blanked(String text) {
        StringBuilder s = new StringBuilder();
        for (char c : text.toCharArray()) {
            boolean within = s.length() > 0 && Character.isDigit(c) && Character.isDigit(s.charAt(s.length() - 1));
            if (!within && chance(20)) {
                s.append(' ');
            }
            s.append(c);
        }
        return s.toString();
    }

    private String spoilt(String text) {
        StringBuilder s = new StringBuilder(text);
        int changes = 1 + below(2);
        for (int i = 0; i < changes && s.length() > 0; i++) {
            int at = below(s.length());
            char sign = chance(3) ? (char) (1 + below(255)) : SIGNS.charAt(below(SIGNS.length()));
            switch (below(4)) {
                case 0: s.setCharAt(at, sign); break;
                case 1: s.insert(at, sign); break;
                case 2: s.deleteCharAt(at); break;
                default: s.setLength(at); break;
            }
        }
        return s.toString();
    }

    private void tell(String text) {
        for (int i = 0; i < text.length(); i += 20) {
            int[] n = Check.numbersOf(text, i);
            feed(n[0], n[1], n[2], n[3], n[4]);
        }
    }

    private void feed(int a, int b, int c, int d, int e) {
        same("feed", made.feed(a, b, c, d, e), plain.feed(a, b, c, d, e));
    }

    private void manyTexts(int many) {
        for (int i = 0; i < many; i++) {
            story.setLength(0);
            String text = text(below(5));
            if (chance(70)) {
                text = spoilt(text);
            }
            same("end 0", made.end(0) ? 1 : 0, plain.end(0) ? 1 : 0);
            tell(text);
            story.append(text).append('\n');
            same("fault", made.fault(), plain.fault());
        }
    }

    // ---- runs

    private void oneRun(int style) {
        made = new PayPromise();
        plain = new PlainDesk();
        if (chance(80)) {
            newDesk(style);
        }
        for (int calls = 0; calls < 400 && wrong == 0; calls++) {
            if (chance(1)) {
                newDesk(style);
            }
            call(below(47));
        }
    }

    private void newDesk(int style) {
        same("end 0", made.end(0) ? 1 : 0, plain.end(0) ? 1 : 0);
        String text = text(style);
        story.append(text).append('\n');
        tell(text);
        same("desk", made.desk(), plain.desk());
    }

    private int wage() {
        if (chance(5)) {
            return new int[] {-1, 10000, Integer.MAX_VALUE, Integer.MIN_VALUE}[below(4)];
        }
        if (chance(10)) {
            return chance(50) ? 0 : 9999 - below(2);
        }
        if (chance(40) && plain.rule(0) >= 0) {
            int line = below(plain.rule(0) + 1) - 1;
            int pieces = line < 0 ? plain.rule(4) : plain.account(line, 3);
            return (int) plain.piece(line, below(pieces), 0) + below(3) - 1;
        }
        return below(chance(30) ? 60 : 10000);
    }

    private int account() {
        return chance(4) ? 7 - below(2) * 9 : below(Math.max(plain.rule(0), 1) + 1) - (chance(60) ? 1 : 0);
    }

    private int index() {
        return chance(4) ? -1 - below(2) : chance(50) ? below(3) : below(chance(80) ? 12 : 9000);
    }

    private int what(int many) {
        return chance(4) ? (chance(50) ? -1 : many) : below(many);
    }

    private long paid() {
        if (chance(6)) {
            return new long[] {Long.MAX_VALUE, Long.MIN_VALUE, 0, -1, PlainDesk.HIDDEN}[below(5)];
        }
        long at = plain.rule(0) < 0 ? 0 : plain.at(-1, below(10000));
        return at + (chance(50) ? 0 : chance(50) ? below(3) - 1 : random.nextInt());
    }

    private long paidInYear() {
        return chance(30) ? paid() : (long) below(130000) * 1_000_000_000L / (chance(50) ? 12 : 1) - below(3);
    }

    private void call(int promise) {
        if (promise < 12) {
            callOfDesk(promise);
        } else if (promise < 24) {
            callOfLine(promise);
        } else if (promise < 36) {
            callOfYear(promise);
        } else {
            callOfRest(promise);
        }
    }

    private void callOfDesk(int promise) {
        int a = account();
        int w = wage();
        int i = index();
        switch (promise) {
            case 0: feed(random.nextInt(), 0, 0x61000062, chance(90) ? 0 : random.nextInt(), 0); break;
            case 1: {
                int n = chance(50) ? 0 : below(Math.max(plain.tapeLength(), 1) + 3) - 1;
                same("end " + n, made.end(n) ? 1 : 0, plain.end(n) ? 1 : 0);
                break;
            }
            case 2: same("fault", made.fault(), plain.fault()); break;
            case 3: same("desk", made.desk(), plain.desk()); break;
            case 4: { int x = what(6); same("rule " + x, made.rule(x), plain.rule(x)); break; }
            case 5: { int x = what(4); same("account " + a + " " + x, thrown(made, a, x), thrown(plain, a, x)); break; }
            case 6: {
                int s = what(6);
                int x = what(4);
                same("segment " + a + " " + s + " " + x, made.segment(a, s, x), plain.segment(a, s, x));
                break;
            }
            case 7: same("at " + a + " " + w, made.at(a, w), plain.at(a, w)); break;
            case 8: same("sum " + a + " " + w, made.sum(a, w), plain.sum(a, w)); break;
            case 9: same("which " + a + " " + w, made.which(a, w), plain.which(a, w)); break;
            case 10: { int x = what(4); same("piece " + a + " " + i + " " + x, made.piece(a, i, x), plain.piece(a, i, x)); break; }
            default: same("pieceAt " + a + " " + w, made.pieceAt(a, w), plain.pieceAt(a, w)); break;
        }
    }

    private static long thrown(PayPromise x, int a, int what) {
        try {
            return x.account(a, what);
        } catch (NoSuchElementException e) {
            return THROWN;
        }
    }

    private static long thrown(PlainDesk x, int a, int what) {
        try {
            return x.account(a, what);
        } catch (NoSuchElementException e) {
            return THROWN;
        }
    }

    private void callOfLine(int promise) {
        int a = account();
        int w = wage();
        int i = index();
        long p = paid();
        switch (promise) {
            case 12: { int x = what(4); same("promised " + p + " " + x, made.promised(p, x), plain.promised(p, x)); break; }
            case 13: same("exactly " + p + " " + i, made.exactly(p, i), plain.exactly(p, i)); break;
            case 14: { int x = what(4); same("cliff " + i + " " + x, made.cliff(i, x), plain.cliff(i, x)); break; }
            case 15: same("more " + w, made.more(w), plain.more(w)); break;
            case 16: same("average " + w, made.average(w), plain.average(w)); break;
            case 17: same("rate " + i, made.rate(i), plain.rate(i)); break;
            case 18: same("jumps " + a, made.jumps(a), plain.jumps(a)); break;
            case 19: bend(a); break;
            case 20: { int k = chance(20) ? 1000 - below(2) : below(1000) - 1; same("benefit " + k, made.benefit(k), plain.benefit(k)); break; }
            case 21: same("month " + w, made.month(w), plain.month(w)); break;
            case 22: same("month again " + w, made.month(w / 3), plain.month(w / 3)); break;
            default: if (chance(40)) { same("takeBack", made.takeBack(), plain.takeBack()); } break;
        }
    }

    private void bend(int a) {
        int s = below(6);
        int x = what(3);
        int v = chance(15) ? plain.segment(a, s, x) : chance(15) ? 10000 - below(2) : below(chance(50) ? 2001 : 200) - 1;
        same("bend " + a + " " + s + " " + x + " " + v, made.bend(a, s, x, v), plain.bend(a, s, x, v));
    }

    private void callOfYear(int promise) {
        int w = wage();
        int i = below(13) - (chance(50) ? 1 : 0);
        long p = paidInYear();
        switch (promise) {
            case 24: { int x = what(3); same("year " + i + " " + x, made.year(i, x), plain.year(i, x)); break; }
            case 25: { int x = what(4); same("sofar " + x, made.sofar(x), plain.sofar(x)); break; }
            case 26: { long q = chance(70) ? p / 12 : p; same("nextMonth " + q, made.nextMonth(q), plain.nextMonth(q)); break; }
            case 27: same("level " + p, made.level(p), plain.level(p)); break;
            case 28: same("dueAhead", made.dueAhead(), plain.dueAhead()); break;
            case 29: {
                int a = account();
                int s = below(4);
                int slope = chance(5) ? 2000 : below(2001) - 1;
                same("would " + a + " " + s + " " + slope + " " + w, made.would(a, s, slope, w), plain.would(a, s, slope, w));
                break;
            }
            case 30: { int o = wage(); same("both " + w + " " + o, made.both(w, o), plain.both(w, o)); break; }
            case 31: { int a = account(); same("without " + a + " " + w, made.without(a, w), plain.without(a, w)); break; }
            case 32: same("kept " + w, made.kept(w), plain.kept(w)); break;
            case 33: { int a = account(); same("first " + a, made.first(a), plain.first(a)); break; }
            case 34: {
                long n = chance(10) ? p : chance(60) ? below(1000) * 1_000_000_000L / 7 : below(3) - 1;
                same("raise " + w + " " + n, made.raise(w, n), plain.raise(w, n));
                break;
            }
            default: { int a = account(); int o = account(); same("over " + a + " " + o + " " + w, made.over(a, o, w), plain.over(a, o, w)); break; }
        }
    }

    private void callOfRest(int promise) {
        int a = account();
        int w = wage();
        switch (promise) {
            case 36: {
                long p = chance(50) ? paid() : plain.at(-1, w) + random.nextInt() * 50L;
                same("inKind " + p + " " + w, made.inKind(p, w), plain.inKind(p, w));
                break;
            }
            case 37: same("through " + a + " " + w, made.through(a, w), plain.through(a, w)); break;
            case 38: { int o = account(); int x = what(3); same("crossings " + a + " " + o + " " + x, made.crossings(a, o, x), plain.crossings(a, o, x)); break; }
            case 39: { int x = what(2); same("kinks " + a + " " + x, made.kinks(a, x), plain.kinks(a, x)); break; }
            case 40: { long p = paidInYear(); same("until " + w + " " + p, made.until(w, p), plain.until(w, p)); break; }
            case 41: { int t = chance(10) ? 1001 - below(2) * 1002 : below(1001); same("free " + t, made.free(t), plain.free(t)); break; }
            case 42: { int i = below(13) - 1; int j = chance(70) ? i + below(3) : below(12); same("putIn " + i + " " + w + " " + j, made.putIn(i, w, j), plain.putIn(i, w, j)); break; }
            case 43: { int i = below(40) - 2; same("spell " + a + " " + i, made.spell(a, i), plain.spell(a, i)); break; }
            case 44: { int x = what(4); same("status " + x, made.status(x), plain.status(x)); break; }
            case 45: { int x = what(10); same("most " + x, made.most(x), plain.most(x)); break; }
            default: { int x = what(3); same("count " + x, made.count(x), plain.count(x)); break; }
        }
    }
}
