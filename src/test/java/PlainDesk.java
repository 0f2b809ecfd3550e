import java.util.ArrayList;
import java.util.List;
import java.util.NoSuchElementException;

/**
 * The document once more, as slow and plain as it can be told: every line is a row of 10,000 values and every
 * answer a walk over all WAGES. The tests hold PayPromise against it; it shares no code with it.
 */
final class PlainDesk {
    static final int NONE = -1;
    static final long HIDDEN = -9000000000000000000L;
    static final int TOP = 9999;
    static final long UNIT = 1_000_000_000L;

    static final class Term {
        final char letter;
        final boolean minus;

        Term(char letter, boolean minus) {
            this.letter = letter;
            this.minus = minus;
        }
    }

    static final class Seg {
        int from;
        int at;
        int slope;

        Seg(int from, int at, int slope) {
            this.from = from;
            this.at = at;
            this.slope = slope;
        }
    }

    static final class Rule {
        char letter;
        List<Term> sum = new ArrayList<>();
        List<Seg> segs = new ArrayList<>();
        int deep;
    }

    static final class Text {
        Integer benefit;
        List<Rule> rules = new ArrayList<>();
        Rule paid;
    }

    static final class Wrong extends Exception {
        private static final long serialVersionUID = 1L;
        final int at;

        Wrong(int at) {
            this.at = at;
        }
    }

    // ---- the TAPE

    private final StringBuilder tape = new StringBuilder();
    private Text desk;
    private int benefit;
    private final List<Integer> months = new ArrayList<>();
    private final int[] status = new int[4];
    private long[][] table;

    int feed(int... numbers) {
        StringBuilder more = new StringBuilder();
        for (int number : numbers) {
            for (int i = 3; i >= 0; i--) {
                int b = number >>> (8 * i) & 0xff;
                if (b != 0) {
                    more.append((char) b);
                }
            }
        }
        if (tape.length() + more.length() > 400) {
            return NONE;
        }
        tape.append(more);
        return tape.length();
    }

    boolean end(int n) {
        if (n < 0 || n > tape.length()) {
            return false;
        }
        tape.setLength(n);
        return true;
    }

    int fault() {
        try {
            parse(tape.toString());
            return NONE;
        } catch (Wrong w) {
            return w.at;
        }
    }

    int desk() {
        try {
            desk = parse(tape.toString());
        } catch (Wrong w) {
            return NONE;
        }
        tape.setLength(0);
        benefit = desk.benefit == null ? 0 : desk.benefit;
        months.clear();
        table = null;
        return desk.rules.size();
    }

    // ---- reading by tokens

    private static final class Token {
        final int start;
        final int end;
        final char kind;
        final String digits;

        Token(int start, int end, char kind, String digits) {
            this.start = start;
            this.end = end;
            this.kind = kind;
            this.digits = digits;
        }
    }

    private List<Token> tokens;
    private int next;

    private static List<Token> tokensOf(String text) {
        List<Token> all = new ArrayList<>();
        int i = 0;
        while (i < text.length()) {
            char c = text.charAt(i);
            if (c == ' ') {
                i++;
            } else if (c >= '0' && c <= '9') {
                int j = i;
                while (j < text.length() && text.charAt(j) >= '0' && text.charAt(j) <= '9') {
                    j++;
                }
                all.add(new Token(i, j, '0', text.substring(i, j)));
                i = j;
            } else {
                all.add(new Token(i, i + 1, c, null));
                i++;
            }
        }
        all.add(new Token(text.length(), text.length(), (char) 0, null));
        return all;
    }

    private Text parse(String text) throws Wrong {
        tokens = tokensOf(text);
        next = 0;
        Text made = new Text();
        while (true) {
            Token token = tokens.get(next);
            char due = (char) ('a' + made.rules.size());
            if (token.kind == 'n') {
                next++;
                made.paid = new Rule();
                made.paid.letter = 'n';
                must('=');
                sumOf(made, made.paid);
                if (tokens.get(next).kind != 0) {
                    throw new Wrong(tokens.get(next).start);
                }
                return made;
            } else if (token.kind == 'k' && made.benefit == null) {
                next++;
                made.benefit = number(0, 999);
            } else if (made.rules.size() < 6 && token.kind == due) {
                next++;
                ruleOf(made, token);
            } else {
                throw new Wrong(token.start);
            }
            must(';');
        }
    }

    private void must(char kind) throws Wrong {
        Token token = tokens.get(next);
        if (token.kind != kind) {
            throw new Wrong(token.start);
        }
        next++;
    }

    private int number(int low, int high) throws Wrong {
        Token token = tokens.get(next);
        if (token.kind != '0') {
            throw new Wrong(token.start);
        }
        if (token.digits.length() > 4) {
            throw new Wrong(token.start + 4);
        }
        int n = Integer.parseInt(token.digits);
        if (n < low || n > high) {
            throw new Wrong(token.end - 1);
        }
        next++;
        return n;
    }

    private void sumOf(Text made, Rule rule) throws Wrong {
        boolean minus = false;
        if (tokens.get(next).kind == '-') {
            minus = true;
            next++;
        }
        while (true) {
            Token token = tokens.get(next);
            boolean told = false;
            for (Rule r : made.rules) {
                told |= r.letter == token.kind;
            }
            if (!told && token.kind != 'g' && token.kind != 'k') {
                throw new Wrong(token.start);
            }
            rule.sum.add(new Term(token.kind, minus));
            next++;
            Token sign = tokens.get(next);
            if (sign.kind != '+' && sign.kind != '-') {
                return;
            }
            if (rule.sum.size() == 6) {
                throw new Wrong(sign.start);
            }
            minus = sign.kind == '-';
            next++;
        }
    }

    private void ruleOf(Text made, Token letter) throws Wrong {
        Rule rule = new Rule();
        rule.letter = letter.kind;
        must('=');
        sumOf(made, rule);
        for (Term t : rule.sum) {
            for (Rule r : made.rules) {
                if (r.letter == t.letter) {
                    rule.deep = Math.max(rule.deep, r.deep);
                }
            }
        }
        rule.deep++;
        if (rule.deep > 3) {
            throw new Wrong(letter.start);
        }
        do {
            if (rule.segs.size() == 6) {
                throw new Wrong(tokens.get(next).start);
            }
            must('/');
            int low = rule.segs.isEmpty() ? 0 : rule.segs.get(rule.segs.size() - 1).from + 1;
            int from = number(low, rule.segs.isEmpty() ? 0 : 9999);
            must(':');
            int one = number(0, 9999);
            if (tokens.get(next).kind == ':') {
                next++;
                rule.segs.add(new Seg(from, one, number(0, 1999)));
            } else if (one > 1999) {
                throw new Wrong(tokens.get(next).start);
            } else {
                rule.segs.add(new Seg(from, NONE, one));
            }
        } while (tokens.get(next).kind == '/');
        made.rules.add(rule);
    }

    // ---- reckoning at one WAGE

    private long[] atEach(int wage, int kind, int held, long heldAt) {
        int n = desk.rules.size();
        long[] values = new long[n + 1];
        for (int i = 0; i < n; i++) {
            values[i] = i == held ? heldAt : valueOf(desk.rules.get(i), sumAt(desk.rules.get(i), values, wage, kind));
        }
        values[n] = sumAt(desk.paid, values, wage, kind);
        return values;
    }

    private static long sumAt(Rule rule, long[] values, int wage, int kind) {
        long total = 0;
        for (Term t : rule.sum) {
            long v = t.letter == 'g' ? wage * UNIT : t.letter == 'k' ? kind * UNIT : values[t.letter - 'a'];
            total = t.minus ? Math.subtractExact(total, v) : Math.addExact(total, v);
        }
        return total;
    }

    private static int segAt(Rule rule, long sum) {
        long s = sum < 0 ? 0 : sum;
        int which = 0;
        for (int i = 0; i < rule.segs.size(); i++) {
            if (rule.segs.get(i).from * UNIT <= s) {
                which = i;
            }
        }
        return which;
    }

    private static long valueOf(Rule rule, long sum) {
        long s = sum < 0 ? 0 : sum;
        return onLine(rule, segAt(rule, sum), s);
    }

    private static long onLine(Rule rule, int seg, long s) {
        Seg x = rule.segs.get(seg);
        long base = x.at != NONE ? x.at * UNIT : seg == 0 ? 0 : onLine(rule, seg - 1, x.from * UNIT);
        long above = s - x.from * UNIT;
        if (above % 1000 != 0) {
            throw new IllegalStateException("not whole nanos");
        }
        return Math.addExact(base, Math.multiplyExact(above / 1000, (long) x.slope));
    }

    private long[] row(int account) {
        if (table == null) {
            int n = desk.rules.size();
            table = new long[n + 1][TOP + 1];
            for (int w = 0; w <= TOP; w++) {
                long[] values = atEach(w, benefit, NONE, 0);
                for (int i = 0; i <= n; i++) {
                    table[i][w] = values[i];
                }
            }
        }
        return table[account == NONE ? desk.rules.size() : account];
    }

    private long[] paid() {
        return row(NONE);
    }

    private boolean isAccount(int a) {
        return desk != null && a >= 0 && a < desk.rules.size();
    }

    private boolean isLine(int a) {
        return desk != null && (a == NONE || isAccount(a));
    }

    private boolean isSegment(int a, int s) {
        return isAccount(a) && s >= 0 && s < desk.rules.get(a).segs.size();
    }

    private static boolean isWage(int w) {
        return w >= 0 && w <= TOP;
    }

    /** Each PIECE as {first, last}. */
    private static List<int[]> pieces(long[] line) {
        List<int[]> all = new ArrayList<>();
        int first = 0;
        while (first <= TOP) {
            int last = first;
            while (last < TOP && line[last + 1] - line[last] == line[first + 1] - line[first]) {
                last++;
            }
            all.add(new int[] {first, last});
            first = last + 1;
        }
        return all;
    }

    private static long gain(long[] line, int[] piece) {
        return piece[0] == piece[1] ? 0 : line[piece[0] + 1] - line[piece[0]];
    }

    private List<Integer> cliffs() {
        List<Integer> all = new ArrayList<>();
        for (int w = 1; w <= TOP; w++) {
            if (paid()[w] < paid()[w - 1]) {
                all.add(w);
            }
        }
        return all;
    }

    private int back(int cliff) {
        for (int w = cliff + 1; w <= TOP; w++) {
            if (paid()[w] >= paid()[cliff - 1]) {
                return w;
            }
        }
        return NONE;
    }

    private int trap(int cliff) {
        int b = back(cliff);
        return b == NONE ? TOP + 1 - cliff : b - cliff;
    }

    // ---- the face

    int rule(int what) {
        if (desk == null) {
            return NONE;
        }
        switch (what) {
            case 0: return desk.rules.size();
            case 1: return benefit;
            case 2: return months.size();
            case 3: return desk.paid.sum.size();
            case 4: return pieces(paid()).size();
            case 5: return cliffs().size();
            default: return NONE;
        }
    }

    int account(int a, int what) {
        if (!isAccount(a) || what < 0 || what > 3) {
            throw new NoSuchElementException();
        }
        Rule r = desk.rules.get(a);
        return new int[] {r.segs.size(), r.sum.size(), r.deep, pieces(row(a)).size()}[what];
    }

    int segment(int a, int s, int what) {
        if (!isSegment(a, s) || what < 0 || what > 3) {
            return NONE - 1;
        }
        Seg seg = desk.rules.get(a).segs.get(s);
        if (what < 3) {
            return new int[] {seg.from, seg.at, seg.slope}[what];
        }
        int of = 0;
        for (int w = 0; w <= TOP; w++) {
            of += which(a, w) == s ? 1 : 0;
        }
        return of;
    }

    long at(int a, int w) {
        return isLine(a) && isWage(w) ? row(a)[w] : HIDDEN;
    }

    long sum(int a, int w) {
        if (!isAccount(a) || !isWage(w)) {
            return HIDDEN;
        }
        return sumAt(desk.rules.get(a), atEach(w, benefit, NONE, 0), w, benefit);
    }

    int which(int a, int w) {
        return isAccount(a) && isWage(w) ? segAt(desk.rules.get(a), sum(a, w)) : NONE;
    }

    long piece(int a, int i, int what) {
        if (!isLine(a) || i < 0 || what < 0 || what > 3 || i >= pieces(row(a)).size()) {
            return HIDDEN;
        }
        int[] p = pieces(row(a)).get(i);
        return new long[] {p[0], p[1], row(a)[p[0]], gain(row(a), p)}[what];
    }

    int pieceAt(int a, int w) {
        if (!isLine(a) || !isWage(w)) {
            return NONE;
        }
        List<int[]> all = pieces(row(a));
        for (int i = 0; i < all.size(); i++) {
            if (all.get(i)[0] <= w && w <= all.get(i)[1]) {
                return i;
            }
        }
        throw new IllegalStateException();
    }

    int promised(long p, int what) {
        if (desk == null || what < 0 || what > 3) {
            return NONE;
        }
        int many = 0;
        int least = NONE;
        int greatest = NONE;
        int nearest = NONE;
        for (int w = 0; w <= TOP; w++) {
            long v = paid()[w];
            many += v == p ? 1 : 0;
            if (v >= p && least == NONE) {
                least = w;
            }
            if (v <= p) {
                greatest = w;
                if (nearest == NONE || v > paid()[nearest]) {
                    nearest = w;
                }
            }
        }
        return new int[] {many, least, greatest, nearest}[what];
    }

    int exactly(long p, int i) {
        if (desk == null) {
            return NONE;
        }
        int seen = 0;
        for (int w = 0; w <= TOP; w++) {
            if (paid()[w] == p) {
                if (seen == i) {
                    return w;
                }
                seen++;
            }
        }
        return NONE;
    }

    long cliff(int i, int what) {
        if (desk == null || i < 0 || what < 0 || what > 3 || i >= cliffs().size()) {
            return HIDDEN;
        }
        int c = cliffs().get(i);
        return new long[] {c, paid()[c - 1] - paid()[c], back(c), trap(c)}[what];
    }

    long more(int w) {
        return desk == null || w < 0 || w > TOP - 1 ? HIDDEN : paid()[w + 1] - paid()[w];
    }

    long average(int w) {
        if (desk == null || !isWage(w)) {
            return HIDDEN;
        }
        return Double.doubleToLongBits((double) kept(w) / (double) (w * UNIT));
    }

    int rate(int i) {
        if (desk == null || i < 0 || i >= pieces(paid()).size()) {
            return NONE;
        }
        return Float.floatToIntBits((float) (UNIT - gain(paid(), pieces(paid()).get(i))) / 1_000_000f);
    }

    int jumps(int a) {
        if (!isLine(a)) {
            return NONE;
        }
        long[] line = row(a);
        List<int[]> all = pieces(line);
        int many = 0;
        for (int i = 1; i < all.size(); i++) {
            long into = line[all.get(i)[0]] - line[all.get(i)[0] - 1];
            if (into != gain(line, all.get(i - 1)) && into != gain(line, all.get(i))) {
                many++;
            }
        }
        return many;
    }

    int bend(int a, int s, int what, int v) {
        if (!isSegment(a, s) || what < 0 || what > 2) {
            status[0]++;
            return NONE - 1;
        }
        List<Seg> segs = desk.rules.get(a).segs;
        Seg seg = segs.get(s);
        boolean ok = v >= 0 && v <= (what == 2 ? 1999 : 9999);
        if (what == 0) {
            ok &= s > 0 && v > segs.get(s - 1).from && (s == segs.size() - 1 || v < segs.get(s + 1).from);
        }
        if (!ok) {
            status[1]++;
            return NONE - 1;
        }
        int old = what == 0 ? seg.from : what == 1 ? seg.at : seg.slope;
        if (old == v) {
            status[2]++;
            return NONE - 1;
        }
        if (what == 0) {
            seg.from = v;
        } else if (what == 1) {
            seg.at = v;
        } else {
            seg.slope = v;
        }
        table = null;
        return old;
    }

    int benefit(int units) {
        int why = desk == null ? 0 : units < 0 || units > 999 ? 1 : units == benefit ? 2 : NONE;
        if (why != NONE) {
            status[why]++;
            return NONE;
        }
        int old = benefit;
        benefit = units;
        table = null;
        return old;
    }

    long month(int w) {
        int why = desk == null ? 0 : !isWage(w) ? 1 : months.size() == 12 ? 3 : NONE;
        if (why != NONE) {
            status[why]++;
            return HIDDEN;
        }
        months.add(w);
        return year(months.size() - 1, 1);
    }

    int takeBack() {
        if (desk == null || months.isEmpty()) {
            status[0]++;
            return NONE;
        }
        return months.remove(months.size() - 1);
    }

    private long due(List<Integer> wages, int m) {
        if (m == 0) {
            return 0;
        }
        int g = 0;
        for (int i = 0; i < m; i++) {
            g += wages.get(i);
        }
        long k = kept(Math.min(9999, g * 12 / m));
        return Math.floorDiv(Math.multiplyExact(k, (long) m), 12L);
    }

    private long paidIn(List<Integer> wages, int i) {
        return wages.get(i) * UNIT - (due(wages, i + 1) - due(wages, i));
    }

    private long paidInAll(List<Integer> wages) {
        long all = 0;
        for (int i = 0; i < wages.size(); i++) {
            all += paidIn(wages, i);
        }
        return all;
    }

    private List<Integer> with(int many, int wage) {
        List<Integer> wages = new ArrayList<>(months);
        for (int i = 0; i < many; i++) {
            wages.add(wage);
        }
        return wages;
    }

    long year(int i, int what) {
        if (desk == null || i < 0 || i >= months.size() || what < 0 || what > 2) {
            return HIDDEN;
        }
        return new long[] {months.get(i), paidIn(months, i), due(months, i + 1)}[what];
    }

    long sofar(int what) {
        if (desk == null || what < 0 || what > 3) {
            return HIDDEN;
        }
        int above = 0;
        int least = NONE;
        int wages = 0;
        for (int i = 0; i < months.size(); i++) {
            wages += months.get(i);
            above += paidIn(months, i) > months.get(i) * UNIT ? 1 : 0;
            if (least == NONE || paidIn(months, i) < paidIn(months, least)) {
                least = i;
            }
        }
        return new long[] {wages, paidInAll(months), above, least}[what];
    }

    int nextMonth(long p) {
        if (desk == null || months.size() == 12) {
            return NONE;
        }
        for (int w = 0; w <= TOP; w++) {
            if (paidIn(with(1, w), months.size()) >= p) {
                return w;
            }
        }
        return NONE;
    }

    int level(long p) {
        if (desk == null || months.size() == 12) {
            return NONE;
        }
        for (int w = 0; w <= TOP; w++) {
            if (paidInAll(with(12 - months.size(), w)) >= p) {
                return w;
            }
        }
        return NONE;
    }

    long dueAhead() {
        if (desk == null) {
            return HIDDEN;
        }
        return due(months, months.size()) - due(with(12 - months.size(), 0), 12);
    }

    long would(int a, int s, int slope, int w) {
        if (!isSegment(a, s) || slope < 0 || slope > 1999 || !isWage(w)) {
            return HIDDEN;
        }
        Seg seg = desk.rules.get(a).segs.get(s);
        int old = seg.slope;
        seg.slope = slope;
        long answer = atEach(w, benefit, NONE, 0)[desk.rules.size()];
        seg.slope = old;
        return answer;
    }

    long both(int w, int o) {
        return desk == null || !isWage(w) || !isWage(o) ? HIDDEN : paidInAll(List.of(w, o));
    }

    long without(int a, int w) {
        return isAccount(a) && isWage(w) ? atEach(w, benefit, a, 0)[desk.rules.size()] : HIDDEN;
    }

    long kept(int w) {
        return desk != null && isWage(w) ? w * UNIT - paid()[w] : HIDDEN;
    }

    int first(int a) {
        if (isAccount(a)) {
            for (int w = 0; w <= TOP; w++) {
                if (row(a)[w] > 0) {
                    return w;
                }
            }
        }
        return NONE;
    }

    int raise(int w, long nanos) {
        if (desk == null || !isWage(w) || nanos < 0) {
            return NONE;
        }
        for (int x = w; x <= TOP; x++) {
            if (paid()[x] - paid()[w] >= nanos) {
                return x;
            }
        }
        return NONE;
    }

    int over(int a, int o, int w) {
        if (!isLine(a) || !isLine(o) || !isWage(w)) {
            return NONE;
        }
        for (int x = w; x <= TOP; x++) {
            if (row(a)[x] >= row(o)[x]) {
                return x;
            }
        }
        return NONE;
    }

    int inKind(long p, int w) {
        if (desk == null || !isWage(w)) {
            return NONE;
        }
        int best = NONE;
        for (int k = 0; k <= 999; k++) {
            if (atEach(w, k, NONE, 0)[desk.rules.size()] >= p) {
                best = k;
            }
        }
        return best;
    }

    long through(int a, int w) {
        if (!isAccount(a) || w < 0 || w > TOP - 1) {
            return HIDDEN;
        }
        long held = atEach(w + 1, benefit, a, row(a)[w])[desk.rules.size()];
        return (paid()[w + 1] - paid()[w]) - (held - paid()[w]);
    }

    long crossings(int a, int o, int what) {
        if (!isLine(a) || !isLine(o) || what < 0 || what > 2) {
            return HIDDEN;
        }
        int many = 0;
        int widest = 0;
        for (int w = 0; w <= TOP; w++) {
            long d = row(a)[w] - row(o)[w];
            if (w > 0 && Long.signum(d) != Long.signum(row(a)[w - 1] - row(o)[w - 1])) {
                many++;
            }
            if (Math.abs(d) > Math.abs(row(a)[widest] - row(o)[widest])) {
                widest = w;
            }
        }
        return new long[] {many, Math.abs(row(a)[widest] - row(o)[widest]), widest}[what];
    }

    int kinks(int a, int what) {
        if (!isLine(a) || what < 0 || what > 1) {
            return NONE;
        }
        List<int[]> all = pieces(row(a));
        int many = 0;
        for (int i = 1; i < all.size(); i++) {
            int c = Long.compare(gain(row(a), all.get(i)), gain(row(a), all.get(i - 1)));
            many += c == (what == 0 ? 1 : -1) ? 1 : 0;
        }
        return many;
    }

    int until(int w, long p) {
        if (desk == null || !isWage(w)) {
            return NONE;
        }
        for (int n = 0; n <= 12 - months.size(); n++) {
            if (paidInAll(with(n, w)) >= p) {
                return n;
            }
        }
        return NONE;
    }

    int free(int t) {
        if (desk == null || t < 0 || t > 1000) {
            return NONE;
        }
        int best = NONE;
        for (int w = 0; w <= TOP; w++) {
            if (kept(w) <= w * UNIT / 1000 * t) {
                best = w;
            }
        }
        return best;
    }

    long putIn(int i, int w, int j) {
        int m = months.size();
        if (desk == null || i < 0 || j < 0 || i >= m || j >= m || i > j || m == 12 || !isWage(w)) {
            return HIDDEN;
        }
        List<Integer> wages = new ArrayList<>(months);
        wages.add(i, w);
        return paidIn(wages, j + 1);
    }

    String spelling(int a) {
        Rule r = a == NONE ? desk.paid : desk.rules.get(a);
        StringBuilder s = new StringBuilder(r.letter + "=");
        for (Term t : r.sum) {
            s.append(t.minus ? "-" : s.length() > 2 ? "+" : "").append(t.letter);
        }
        for (Seg g : r.segs) {
            s.append("/" + g.from + ":" + (g.at == NONE ? "" : g.at + ":") + g.slope);
        }
        return s.toString();
    }

    int spell(int a, int i) {
        if (!isLine(a)) {
            return NONE;
        }
        String s = spelling(a);
        return i == NONE ? s.length() : i >= 0 && i < s.length() ? s.charAt(i) : NONE;
    }

    int status(int what) {
        return what >= 0 && what < 4 ? status[what] : NONE;
    }

    long most(int what) {
        if (desk == null || what < 0 || what > 9) {
            return HIDDEN;
        }
        long[] p = paid();
        int hi = 0;
        int lo = 0;
        int steep = 0;
        for (int w = 0; w <= TOP; w++) {
            hi = p[w] > p[hi] ? w : hi;
            lo = p[w] < p[lo] ? w : lo;
            steep = w < TOP && more(w) < more(steep) ? w : steep;
        }
        int flat = 0;
        int big = 0;
        List<int[]> all = pieces(p);
        for (int i = 0; i < all.size(); i++) {
            flat += all.get(i)[1] > all.get(i)[0] && gain(p, all.get(i)) == 0 ? 1 : 0;
            big = all.get(i)[1] - all.get(i)[0] > all.get(big)[1] - all.get(big)[0] ? i : big;
        }
        if (what == 6 || what == 7) {
            return traps(what);
        }
        return new long[] {p[hi], hi, p[lo], lo, steep, flat, 0, 0, big, more(steep)}[what];
    }

    private long traps(int what) {
        boolean[] in = new boolean[TOP + 1];
        int longest = 0;
        for (int c : cliffs()) {
            int t = trap(c);
            longest = Math.max(longest, t);
            for (int w = c; w < c + t; w++) {
                in[w] = true;
            }
        }
        int many = 0;
        for (boolean b : in) {
            many += b ? 1 : 0;
        }
        return what == 6 ? longest : many;
    }

    int count(int what) {
        if (what == 0) {
            return tape.length();
        }
        if (desk == null || what < 0 || what > 2) {
            return NONE;
        }
        int all = 0;
        for (int a = 0; a < desk.rules.size(); a++) {
            all += account(a, what == 1 ? 0 : 3);
        }
        return all;
    }

    int tapeLength() {
        return tape.length();
    }
}
