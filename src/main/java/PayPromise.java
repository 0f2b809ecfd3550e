import java.util.Arrays;
import java.util.NoSuchElementException;

/** A desk that promises what is paid out of a wage; the document's promises are numbered at the methods. */
public final class PayPromise {
    public static final int NONE = -1;
    public static final long HIDDEN = -9000000000000000000L;

    private static final int NO_SUCH = NONE - 1;
    private static final int LAST_WAGE = 9999;
    private static final int LAST_BENEFIT = 999;
    private static final int LAST_AT = 9999;
    private static final int LAST_SLOPE = 1999;
    private static final int MOST_ACCOUNTS = 6;
    private static final int MOST_TERMS = 6;
    private static final int MOST_SEGMENTS = 6;
    private static final int MOST_DEEP = 3;
    private static final int MOST_BYTES = 400;
    private static final int MONTHS_OF_YEAR = 12;

    /** PAID stands behind the ACCOUNTS in every row that has one place for each line. */
    private static final int PAID = MOST_ACCOUNTS;
    private static final int LINES = MOST_ACCOUNTS + 1;

    /** What a TERM is, if it is no ACCOUNT (these are 0 .. 5). */
    private static final int WAGE_TERM = 6;
    private static final int BENEFIT_TERM = 7;

    private static final long UNIT = 1000000000L;
    private static final long THOUSANDTH = 1000000L;

    /** More than two PAIDs ever differ by (some 2.3e17), and far from where a long wraps around. */
    private static final long BEYOND = 4000000000000000000L;

    private static final int REFUSED_NO_SUCH = 0;
    private static final int REFUSED_BOUNDS = 1;
    private static final int REFUSED_SAME = 2;
    private static final int REFUSED_FULL = 3;
    private static final int REFUSALS = 4;

    private final Reader reader = new Reader();
    private final Point point = new Point();
    private final Lines lines = new Lines();
    private final Line between = new Line();
    private final Year months = new Year();
    private final Speller speller = new Speller();
    private final int[] refusals = new int[REFUSALS];
    private Rules rules = new Rules();
    private Rules draft = new Rules();
    private boolean hasDesk = false;
    private boolean stale = false;

    /** Promise 1. */
    public PayPromise() {
    }

    /** Promise 2. */
    public int feed(int a, int b, int c, int d, int e) {
        int more = bytesIn(a) + bytesIn(b) + bytesIn(c) + bytesIn(d) + bytesIn(e);
        if (reader.length + more > MOST_BYTES) {
            return NONE;
        }
        reader.append(a);
        reader.append(b);
        reader.append(c);
        reader.append(d);
        reader.append(e);
        return reader.length;
    }

    /** Promise 3. */
    public boolean end(int n) {
        if (n < 0 || n > reader.length) {
            return false;
        }
        reader.length = n;
        return true;
    }

    /** Promise 4. */
    public int fault() {
        return reader.read(draft);
    }

    /** Promise 5. */
    public int desk() {
        if (reader.read(draft) != NONE) {
            return NONE;
        }
        Rules old = rules;
        rules = draft;
        draft = old;
        reader.length = 0;
        months.passed = 0;
        hasDesk = true;
        stale = true;
        return rules.accounts;
    }

    /** Promise 6. */
    public int rule(int what) {
        if (!hasDesk) {
            return NONE;
        }
        switch (what) {
            case 0: return rules.accounts;
            case 1: return rules.benefit;
            case 2: return months.passed;
            case 3: return rules.termCounts[PAID];
            case 4: return line(NONE).pieces;
            case 5: return line(NONE).cliffs();
            default: return NONE;
        }
    }

    /** Promise 7. */
    public int account(int account, int what) throws NoSuchElementException {
        if (!isAccount(account) || what < 0 || what > 3) {
            throw new NoSuchElementException("no such account, or nothing of it by this number");
        }
        switch (what) {
            case 0: return rules.segmentCounts[account];
            case 1: return rules.termCounts[account];
            case 2: return rules.depths[account];
            default: return line(account).pieces;
        }
    }

    /** Promise 8. */
    public int segment(int account, int segment, int what) {
        if (!isSegment(account, segment)) {
            return NO_SUCH;
        }
        switch (what) {
            case 0: return rules.froms[account][segment];
            case 1: return rules.ats[account][segment];
            case 2: return rules.slopes[account][segment];
            case 3: return fresh().wagesOf[account][segment];
            default: return NO_SUCH;
        }
    }

    /** Promise 9. */
    public long at(int account, int wage) {
        if (!isLine(account) || !isWage(wage)) {
            return HIDDEN;
        }
        point.reckon(rules, wage);
        return point.values[rowOf(account)];
    }

    /** Promise 10. */
    public long sum(int account, int wage) {
        if (!isAccount(account) || !isWage(wage)) {
            return HIDDEN;
        }
        point.reckon(rules, wage);
        return point.sums[account];
    }

    /** Promise 11. */
    public int which(int account, int wage) {
        if (!isAccount(account) || !isWage(wage)) {
            return NONE;
        }
        point.reckon(rules, wage);
        return point.segments[account];
    }

    /** Promise 12. */
    public long piece(int account, int i, int what) {
        if (!isLine(account) || i < 0 || i >= line(account).pieces) {
            return HIDDEN;
        }
        Line line = line(account);
        switch (what) {
            case 0: return line.starts[i];
            case 1: return line.lastOf(i);
            case 2: return line.values[i];
            case 3: return line.gains[i];
            default: return HIDDEN;
        }
    }

    /** Promise 13. */
    public int pieceAt(int account, int wage) {
        return isLine(account) && isWage(wage) ? line(account).pieceOf(wage) : NONE;
    }

    /** Promise 14. */
    public int promised(long paid, int what) {
        if (!hasDesk) {
            return NONE;
        }
        switch (what) {
            case 0: return line(NONE).wagesWith(paid);
            case 1: return line(NONE).leastNoLess(0, paid);
            case 2: return line(NONE).greatestNoMore(paid);
            case 3: return line(NONE).nearestBelow(paid);
            default: return NONE;
        }
    }

    /** Promise 15. */
    public int exactly(long paid, int i) {
        return hasDesk && i >= 0 ? line(NONE).wageWith(paid, i) : NONE;
    }

    /** Promise 16. */
    public long cliff(int i, int what) {
        if (!hasDesk || i < 0 || what < 0 || what > 3) {
            return HIDDEN;
        }
        Line paid = line(NONE);
        int wage = paid.cliffWage(i);
        if (wage == NONE) {
            return HIDDEN;
        }
        switch (what) {
            case 0: return wage;
            case 1: return paid.valueAt(wage - 1) - paid.valueAt(wage);
            case 2: return paid.backFrom(wage);
            default: return paid.trapFrom(wage);
        }
    }

    /** Promise 17. */
    public long more(int wage) {
        if (!hasDesk || wage < 0 || wage >= LAST_WAGE) {
            return HIDDEN;
        }
        return point.reckon(rules, wage + 1) - point.reckon(rules, wage);
    }

    /** Promise 18. */
    public long average(int wage) {
        if (!hasDesk || !isWage(wage)) {
            return HIDDEN;
        }
        return Bits.ofQuotient(keptAt(wage), wage * UNIT);
    }

    /** Promise 19. */
    public int rate(int i) {
        if (!hasDesk || i < 0 || i >= line(NONE).pieces) {
            return NONE;
        }
        return Bits.ofFloat((float) (UNIT - line(NONE).gains[i]) / (float) THOUSANDTH);
    }

    /** Promise 20. */
    public int jumps(int account) {
        return isLine(account) ? line(account).jumpCount() : NONE;
    }

    /** Promise 21. */
    public int bend(int account, int segment, int what, int v) {
        if (!isSegment(account, segment) || what < 0 || what > 2) {
            return refuse(REFUSED_NO_SUCH, NO_SUCH);
        }
        if (!mayBend(account, segment, what, v)) {
            return refuse(REFUSED_BOUNDS, NO_SUCH);
        }
        int[] row = rules.rowOfWhat(account, what);
        int old = row[segment];
        if (old == v) {
            return refuse(REFUSED_SAME, NO_SUCH);
        }
        row[segment] = v;
        rules.settle(account);
        stale = true;
        return old;
    }

    /** Promise 22. */
    public int benefit(int units) {
        if (!hasDesk) {
            return refuse(REFUSED_NO_SUCH, NONE);
        }
        if (units < 0 || units > LAST_BENEFIT) {
            return refuse(REFUSED_BOUNDS, NONE);
        }
        if (units == rules.benefit) {
            return refuse(REFUSED_SAME, NONE);
        }
        int old = rules.benefit;
        rules.benefit = units;
        stale = true;
        return old;
    }

    /** Promise 23. */
    public long month(int wage) {
        if (!hasDesk) {
            refusals[REFUSED_NO_SUCH]++;
            return HIDDEN;
        }
        if (!isWage(wage)) {
            refusals[REFUSED_BOUNDS]++;
            return HIDDEN;
        }
        if (months.isFull()) {
            refusals[REFUSED_FULL]++;
            return HIDDEN;
        }
        months.wages[months.passed] = wage;
        months.passed++;
        return months.paidIn(line(NONE), months.passed - 1);
    }

    /** Promise 24. */
    public int takeBack() {
        if (!hasDesk || months.passed < 1) {
            return refuse(REFUSED_NO_SUCH, NONE);
        }
        months.passed--;
        return months.wages[months.passed];
    }

    /** Promise 25. */
    public long year(int i, int what) {
        if (!isMonth(i)) {
            return HIDDEN;
        }
        switch (what) {
            case 0: return months.wages[i];
            case 1: return months.paidIn(line(NONE), i);
            case 2: return Year.due(line(NONE), i + 1, months.wagesOf(i + 1));
            default: return HIDDEN;
        }
    }

    /** Promise 26. */
    public long sofar(int what) {
        if (!hasDesk) {
            return HIDDEN;
        }
        switch (what) {
            case 0: return months.wagesOf(months.passed);
            case 1: return Year.paidOf(line(NONE), months.passed, months.wagesOf(months.passed));
            case 2: return months.paidAboveWage(line(NONE));
            case 3: return months.leastPaid(line(NONE));
            default: return HIDDEN;
        }
    }

    /** Promise 27. */
    public int nextMonth(long paid) {
        return hasDesk && !months.isFull() ? months.leastNext(line(NONE), paid) : NONE;
    }

    /** Promise 28. */
    public int level(long paid) {
        return hasDesk && !months.isFull() ? months.leastEach(line(NONE), paid) : NONE;
    }

    /** Promise 29. */
    public long dueAhead() {
        if (!hasDesk) {
            return HIDDEN;
        }
        Line paid = line(NONE);
        int wages = months.wagesOf(months.passed);
        return Year.due(paid, months.passed, wages) - Year.due(paid, MONTHS_OF_YEAR, wages);
    }

    /** Promise 30. */
    public long would(int account, int segment, int slope, int wage) {
        if (!isSegment(account, segment) || !isWage(wage) || slope < 0 || slope > LAST_SLOPE) {
            return HIDDEN;
        }
        int old = rules.slopes[account][segment];
        rules.slopes[account][segment] = slope;
        rules.settle(account);
        long paid = point.reckon(rules, wage);
        rules.slopes[account][segment] = old;
        rules.settle(account);
        return paid;
    }

    /** Promise 31. */
    public long both(int wage, int other) {
        if (!hasDesk || !isWage(wage) || !isWage(other)) {
            return HIDDEN;
        }
        return Year.paidOf(line(NONE), 2, wage + other);
    }

    /** Promise 32. */
    public long without(int account, int wage) {
        if (!isAccount(account) || !isWage(wage)) {
            return HIDDEN;
        }
        return point.reckonHeld(rules, wage, rules.benefit, account, 0);
    }

    /** Promise 33. */
    public long kept(int wage) {
        return hasDesk && isWage(wage) ? keptAt(wage) : HIDDEN;
    }

    /** Promise 34. */
    public int first(int account) {
        return isAccount(account) ? line(account).leastNoLess(0, 1) : NONE;
    }

    /** Promise 35. */
    public int raise(int wage, long nanos) {
        if (!hasDesk || !isWage(wage) || nanos < 0) {
            return NONE;
        }
        Line paid = line(NONE);
        return paid.leastNoLess(wage, paid.valueAt(wage) + Math.min(nanos, BEYOND));
    }

    /** Promise 36. */
    public int over(int account, int other, int wage) {
        if (!isLine(account) || !isLine(other) || !isWage(wage)) {
            return NONE;
        }
        between.becomeDifference(line(account), line(other));
        return between.leastNoLess(wage, 0);
    }

    /** Promise 37. */
    public int inKind(long paid, int wage) {
        if (!hasDesk || !isWage(wage)) {
            return NONE;
        }
        for (int units = LAST_BENEFIT; units >= 0; units--) {
            if (point.reckonHeld(rules, wage, units, NONE, 0) >= paid) {
                return units;
            }
        }
        return NONE;
    }

    /** Promise 38. */
    public long through(int account, int wage) {
        if (!isAccount(account) || wage < 0 || wage >= LAST_WAGE) {
            return HIDDEN;
        }
        point.reckon(rules, wage);
        long here = point.values[account];
        long held = point.reckonHeld(rules, wage + 1, rules.benefit, account, here);
        return point.reckon(rules, wage + 1) - held;
    }

    /** Promise 39. */
    public long crossings(int account, int other, int what) {
        if (!isLine(account) || !isLine(other) || what < 0 || what > 2) {
            return HIDDEN;
        }
        between.becomeDifference(line(account), line(other));
        if (what == 0) {
            return between.signChanges();
        }
        int wage = between.widest();
        return what == 1 ? Math.abs(between.valueAt(wage)) : wage;
    }

    /** Promise 40. */
    public int kinks(int account, int what) {
        return isLine(account) && (what == 0 || what == 1) ? line(account).kinkCount(what == 0) : NONE;
    }

    /** Promise 41. */
    public int until(int wage, long paid) {
        return hasDesk && isWage(wage) ? months.leastMonths(line(NONE), wage, paid) : NONE;
    }

    /** Promise 42. */
    public int free(int thousandths) {
        if (!hasDesk || thousandths < 0 || thousandths > 1000) {
            return NONE;
        }
        return line(NONE).greatestKeptNoMore(thousandths);
    }

    /** Promise 43. */
    public long putIn(int i, int wage, int j) {
        if (!isMonth(i) || !isMonth(j) || months.isFull() || !isWage(wage) || i > j) {
            return HIDDEN;
        }
        return months.paidBehind(line(NONE), j, wage);
    }

    /** Promise 44. */
    public int spell(int account, int i) {
        return isLine(account) && i >= NONE ? speller.write(rules, rowOf(account), i) : NONE;
    }

    /** Promise 45. */
    public int status(int what) {
        return what >= 0 && what < REFUSALS ? refusals[what] : NONE;
    }

    /** Promise 46. */
    public long most(int what) {
        if (!hasDesk) {
            return HIDDEN;
        }
        Line paid = line(NONE);
        switch (what) {
            case 0: return paid.valueAt(paid.wageOfMost());
            case 1: return paid.wageOfMost();
            case 2: return paid.valueAt(paid.wageOfLeast());
            case 3: return paid.wageOfLeast();
            case 4: return paid.steepest();
            case 5: return paid.flatPieces();
            case 6: return paid.longestTrap();
            case 7: return paid.trappedWages();
            case 8: return paid.greatestPiece();
            case 9: return more(paid.steepest());
            default: return HIDDEN;
        }
    }

    /** Promise 47. */
    public int count(int what) {
        if (what == 0) {
            return reader.length;
        }
        if (!hasDesk || what < 0 || what > 2) {
            return NONE;
        }
        int all = 0;
        for (int account = 0; account < rules.accounts; account++) {
            all += what == 1 ? rules.segmentCounts[account] : line(account).pieces;
        }
        return all;
    }

    private boolean isAccount(int account) {
        return hasDesk && account >= 0 && account < rules.accounts;
    }

    private boolean isLine(int account) {
        return hasDesk && account >= NONE && account < rules.accounts;
    }

    private boolean isSegment(int account, int segment) {
        return isAccount(account) && segment >= 0 && segment < rules.segmentCounts[account];
    }

    private boolean isMonth(int i) {
        return hasDesk && i >= 0 && i < months.passed;
    }

    private static boolean isWage(int wage) {
        return wage >= 0 && wage <= LAST_WAGE;
    }

    private static int rowOf(int account) {
        return account == NONE ? PAID : account;
    }

    private Line line(int account) {
        return fresh().all[rowOf(account)];
    }

    /** Lines are drawn anew only when one is asked for: a run may bend often and look seldom. */
    private Lines fresh() {
        if (stale) {
            lines.draw(rules, point);
            stale = false;
        }
        return lines;
    }

    private long keptAt(int wage) {
        return wage * UNIT - point.reckon(rules, wage);
    }

    private int refuse(int reason, int answer) {
        refusals[reason]++;
        return answer;
    }

    private boolean mayBend(int account, int segment, int what, int v) {
        if (what == 0) {
            return rules.mayStart(account, segment, v);
        }
        return v >= 0 && v <= (what == 1 ? LAST_AT : LAST_SLOPE);
    }

    private static int bytesIn(int four) {
        int bytes = 0;
        for (int shift = 24; shift >= 0; shift -= 8) {
            if (((four >> shift) & 255) != 0) {
                bytes++;
            }
        }
        return bytes;
    }

    /** The rules of a DESK and its BENEFIT. */
    private static final class Rules {
        int accounts = 0;
        int benefit = 0;
        final int[] termCounts = new int[LINES];
        final int[][] terms = new int[LINES][MOST_TERMS];
        final int[][] signs = new int[LINES][MOST_TERMS];
        final int[] depths = new int[MOST_ACCOUNTS];
        final int[] segmentCounts = new int[MOST_ACCOUNTS];
        final int[][] froms = new int[MOST_ACCOUNTS][MOST_SEGMENTS];
        final int[][] ats = new int[MOST_ACCOUNTS][MOST_SEGMENTS];
        final int[][] slopes = new int[MOST_ACCOUNTS][MOST_SEGMENTS];
        final long[][] bases = new long[MOST_ACCOUNTS][MOST_SEGMENTS];

        void clear() {
            accounts = 0;
            benefit = 0;
            Arrays.fill(termCounts, 0);
            Arrays.fill(segmentCounts, 0);
        }

        void addTerm(int row, int term, int sign) {
            terms[row][termCounts[row]] = term;
            signs[row][termCounts[row]] = sign;
            termCounts[row]++;
        }

        void addSegment(int account, int from, int at, int slope) {
            int segment = segmentCounts[account];
            froms[account][segment] = from;
            ats[account][segment] = at;
            slopes[account][segment] = slope;
            segmentCounts[account]++;
        }

        int depthOfTerms(int row) {
            int deepest = 0;
            for (int i = 0; i < termCounts[row]; i++) {
                int term = terms[row][i];
                if (term < MOST_ACCOUNTS) {
                    deepest = Math.max(deepest, depths[term]);
                }
            }
            return deepest + 1;
        }

        int[] rowOfWhat(int account, int what) {
            if (what == 0) {
                return froms[account];
            }
            return what == 1 ? ats[account] : slopes[account];
        }

        /** The first FROM stays 0; others stay between their neighbours. */
        boolean mayStart(int account, int segment, int from) {
            if (segment == 0 || from > LAST_WAGE || from <= froms[account][segment - 1]) {
                return false;
            }
            return segment + 1 == segmentCounts[account] || from < froms[account][segment + 1];
        }

        /** What an ACCOUNT comes to at each FROM, in NANOS: an AT that is not told hangs on those ahead. */
        void settle(int account) {
            int[] from = froms[account];
            long[] base = bases[account];
            for (int i = 0; i < segmentCounts[account]; i++) {
                if (ats[account][i] != NONE) {
                    base[i] = ats[account][i] * UNIT;
                } else if (i == 0) {
                    base[i] = 0;
                } else {
                    long rise = (long) (from[i] - from[i - 1]) * slopes[account][i - 1];
                    base[i] = base[i - 1] + rise * THOUSANDTH;
                }
            }
        }

        int segmentFor(int account, long total) {
            int segment = segmentCounts[account] - 1;
            while (segment > 0 && froms[account][segment] * UNIT > total) {
                segment--;
            }
            return segment;
        }
    }

    /** The TAPE, and how it is read as the TEXT of a DESK. */
    private static final class Reader {
        private static final int AT_END = -1;
        /** A benefit, six rules and PAID. */
        private static final int MOST_CLAUSES = MOST_ACCOUNTS + 2;
        private static final int MOST_DIGITS = 4;

        final int[] tape = new int[MOST_BYTES];
        int length = 0;
        private int place = 0;
        private int wrong = NONE;
        private boolean benefitTold = false;

        void append(int four) {
            for (int shift = 24; shift >= 0; shift -= 8) {
                int sign = (four >> shift) & 255;
                if (sign != 0 && length < MOST_BYTES) {
                    tape[length] = sign;
                    length++;
                }
            }
        }

        /** Reads the TAPE into a draft: the FAULT, NONE if it has none. */
        int read(Rules draft) {
            draft.clear();
            place = 0;
            wrong = NONE;
            benefitTold = false;
            for (int clause = 0; clause < MOST_CLAUSES; clause++) {
                int sign = look();
                boolean clean;
                if (sign == 'n') {
                    readPaid(draft);
                    return wrong;
                } else if (sign == 'k' && !benefitTold) {
                    clean = readBenefit(draft);
                } else if (sign == 'a' + draft.accounts && draft.accounts < MOST_ACCOUNTS) {
                    clean = readRule(draft);
                } else {
                    clean = fail(place);
                }
                if (!clean || !take(';')) {
                    return wrong;
                }
            }
            return place;
        }

        private boolean fail(int at) {
            wrong = at;
            return false;
        }

        /** The next sign that is no blank. */
        private int look() {
            while (place < length && tape[place] == ' ') {
                place++;
            }
            return place < length ? tape[place] : AT_END;
        }

        private boolean take(int sign) {
            if (look() != sign) {
                return fail(place);
            }
            place++;
            return true;
        }

        private boolean readBenefit(Rules draft) {
            place++;
            int units = readNumber(0, LAST_BENEFIT);
            if (units == NONE) {
                return false;
            }
            draft.benefit = units;
            benefitTold = true;
            return true;
        }

        private void readPaid(Rules draft) {
            place++;
            if (take('=') && readTerms(draft, PAID) && look() != AT_END) {
                fail(place);
            }
        }

        private boolean readRule(Rules draft) {
            int account = draft.accounts;
            int letter = place;
            place++;
            if (!take('=') || !readTerms(draft, account)) {
                return false;
            }
            draft.depths[account] = draft.depthOfTerms(account);
            if (draft.depths[account] > MOST_DEEP) {
                return fail(letter);
            }
            if (!readSegments(draft, account)) {
                return false;
            }
            draft.settle(account);
            draft.accounts++;
            return true;
        }

        private boolean readTerms(Rules draft, int row) {
            int sign = 1;
            if (look() == '-') {
                sign = -1;
                place++;
            }
            for (int i = 0; i < MOST_TERMS; i++) {
                int term = termOf(look(), draft.accounts);
                if (term == NONE) {
                    return fail(place);
                }
                draft.addTerm(row, term, sign);
                place++;
                int next = look();
                if (next != '+' && next != '-') {
                    return true;
                }
                if (i + 1 == MOST_TERMS) {
                    return fail(place);
                }
                sign = next == '-' ? -1 : 1;
                place++;
            }
            return true;
        }

        private static int termOf(int letter, int told) {
            if (letter == 'g') {
                return WAGE_TERM;
            }
            if (letter == 'k') {
                return BENEFIT_TERM;
            }
            return letter >= 'a' && letter < 'a' + told ? letter - 'a' : NONE;
        }

        private boolean readSegments(Rules draft, int account) {
            int least = 0;
            int greatest = 0;
            for (int i = 0; i < MOST_SEGMENTS; i++) {
                if (!take('/') || !readSegment(draft, account, least, greatest)) {
                    return false;
                }
                least = draft.froms[account][i] + 1;
                greatest = LAST_WAGE;
                if (look() != '/') {
                    return true;
                }
            }
            return fail(place);
        }

        private boolean readSegment(Rules draft, int account, int least, int greatest) {
            int from = readNumber(least, greatest);
            if (from == NONE || !take(':')) {
                return false;
            }
            int number = readNumber(0, LAST_AT);
            if (number == NONE) {
                return false;
            }
            if (look() != ':') {
                draft.addSegment(account, from, NONE, number);
                return number <= LAST_SLOPE || fail(place);
            }
            place++;
            int slope = readNumber(0, LAST_SLOPE);
            if (slope == NONE) {
                return false;
            }
            draft.addSegment(account, from, number, slope);
            return true;
        }

        private int readNumber(int least, int greatest) {
            look();
            int number = 0;
            int digits = 0;
            while (digits < MOST_DIGITS && isDigit(place)) {
                number = number * 10 + tape[place] - '0';
                place++;
                digits++;
            }
            if (digits == 0 || isDigit(place)) {
                fail(place);
                return NONE;
            }
            if (number < least || number > greatest) {
                fail(place - 1);
                return NONE;
            }
            return number;
        }

        private boolean isDigit(int at) {
            return at < length && tape[at] >= '0' && tape[at] <= '9';
        }
    }

    /** What all ACCOUNTS and PAID come to at one WAGE. */
    private static final class Point {
        final long[] sums = new long[LINES];
        final long[] values = new long[LINES];
        final int[] segments = new int[MOST_ACCOUNTS];

        /** PAID at a WAGE; the rows tell the rest. */
        long reckon(Rules rules, int wage) {
            return reckonHeld(rules, wage, rules.benefit, NONE, 0);
        }

        /** The same with another BENEFIT, and with one ACCOUNT (NONE: none) held at a value. */
        long reckonHeld(Rules rules, int wage, int benefit, int held, long value) {
            for (int account = 0; account < rules.accounts; account++) {
                long total = addUp(rules, account, wage, benefit);
                long counted = Math.max(total, 0);
                int segment = rules.segmentFor(account, counted);
                sums[account] = total;
                segments[account] = segment;
                values[account] = account == held ? value : valueIn(rules, account, segment, counted);
            }
            sums[PAID] = addUp(rules, PAID, wage, benefit);
            values[PAID] = sums[PAID];
            return values[PAID];
        }

        private long addUp(Rules rules, int row, int wage, int benefit) {
            int[] terms = rules.terms[row];
            int[] signs = rules.signs[row];
            long total = 0;
            for (int i = 0; i < rules.termCounts[row]; i++) {
                long amount;
                if (terms[i] == WAGE_TERM) {
                    amount = wage * UNIT;
                } else if (terms[i] == BENEFIT_TERM) {
                    amount = benefit * UNIT;
                } else {
                    amount = values[terms[i]];
                }
                total += signs[i] * amount;
            }
            return total;
        }

        /** The deepest SUM is whole by 1000 NANOS: dividing first is exact, and keeps the product in a long. */
        private static long valueIn(Rules rules, int account, int segment, long counted) {
            long above = counted - rules.froms[account][segment] * UNIT;
            return rules.bases[account][segment] + above / 1000 * rules.slopes[account][segment];
        }
    }

    /** The lines of all ACCOUNTS and of PAID. */
    private static final class Lines {
        final Line[] all = new Line[LINES];
        final int[][] wagesOf = new int[MOST_ACCOUNTS][MOST_SEGMENTS];
        private final long[] gains = new long[LINES];

        Lines() {
            for (int i = 0; i < LINES; i++) {
                all[i] = new Line();
            }
        }

        /** Goes from stretch to stretch of WAGES over which every ACCOUNT stays in one SEGMENT. */
        void draw(Rules rules, Point point) {
            for (int account = 0; account < rules.accounts; account++) {
                Arrays.fill(wagesOf[account], 0);
            }
            int further = 0;
            for (int wage = 0; wage <= LAST_WAGE; wage += further + 1) {
                point.reckon(rules, wage);
                further = straightFor(rules, point, LAST_WAGE - wage);
                for (int account = 0; account < rules.accounts; account++) {
                    all[account].addStretch(wage, point.values[account], gains[account], further);
                    wagesOf[account][point.segments[account]] += further + 1;
                }
                all[PAID].addStretch(wage, point.values[PAID], gains[PAID], further);
            }
        }

        /** For how many WAGES more no ACCOUNT leaves its SEGMENT; what each WAGE of these brings is in gains. */
        private int straightFor(Rules rules, Point point, int limit) {
            long reach = limit;
            for (int account = 0; account < rules.accounts; account++) {
                long step = gainOfTerms(rules, account);
                int segment = point.segments[account];
                long total = point.sums[account];
                if (total < 0) {
                    gains[account] = 0;
                } else {
                    gains[account] = step / 1000 * rules.slopes[account][segment];
                }
                reach = Math.min(reach, reachIn(rules, account, segment, total, step));
            }
            gains[PAID] = gainOfTerms(rules, PAID);
            return (int) reach;
        }

        private long gainOfTerms(Rules rules, int row) {
            int[] terms = rules.terms[row];
            long gain = 0;
            for (int i = 0; i < rules.termCounts[row]; i++) {
                if (terms[i] == WAGE_TERM) {
                    gain += rules.signs[row][i] * UNIT;
                } else if (terms[i] < MOST_ACCOUNTS) {
                    gain += rules.signs[row][i] * gains[terms[i]];
                }
            }
            return gain;
        }

        /** How many steps a SUM may go on until it leaves the SEGMENT (or comes out from below 0). */
        private static long reachIn(Rules rules, int account, int segment, long total, long step) {
            if (step > 0) {
                if (total < 0) {
                    return (-1 - total) / step;
                }
                boolean open = segment + 1 == rules.segmentCounts[account];
                return open ? LAST_WAGE : (rules.froms[account][segment + 1] * UNIT - 1 - total) / step;
            }
            if (step < 0 && total >= 0) {
                return (total - rules.froms[account][segment] * UNIT) / -step;
            }
            return LAST_WAGE;
        }
    }

    /** A line over all WAGES, held as its PIECES. */
    private static final class Line {
        private static final int FIRST_ROOM = 16;
        /** Halving as often finds a place among more PIECES than there are WAGES. */
        private static final int MOST_HALVINGS = 15;

        int pieces = 0;
        int[] starts = new int[FIRST_ROOM];
        long[] values = new long[FIRST_ROOM];
        long[] gains = new long[FIRST_ROOM];
        private int endWage = 0;
        private long endValue = 0;
        private boolean alone = true;
        private int seat = 0;

        /** A stretch from a WAGE on, which must be 0 or the one behind the stretch ahead. */
        void addStretch(int wage, long value, long gain, int further) {
            if (wage == 0) {
                pieces = 0;
                seat = 0;
                open(0, value);
            } else {
                makeRoom();
                go(value - endValue, 1);
            }
            go(gain, further);
        }

        /** A stretch opens two PIECES at most: one where it begins, one where it goes on. */
        private void makeRoom() {
            if (pieces + 2 > starts.length) {
                int room = starts.length * 2;
                starts = Arrays.copyOf(starts, room);
                values = Arrays.copyOf(values, room);
                gains = Arrays.copyOf(gains, room);
            }
        }

        private void open(int wage, long value) {
            starts[pieces] = wage;
            values[pieces] = value;
            gains[pieces] = 0;
            pieces++;
            endWage = wage;
            endValue = value;
            alone = true;
        }

        /** So many WAGES more, each bringing the gain. */
        private void go(long gain, int wages) {
            int rest = wages;
            if (rest > 0 && !alone && gains[pieces - 1] != gain) {
                open(endWage + 1, endValue + gain);
                rest--;
            }
            if (rest > 0) {
                gains[pieces - 1] = gain;
                alone = false;
                endWage += rest;
                endValue += rest * gain;
            }
        }

        void becomeDifference(Line one, Line other) {
            int i = 0;
            int j = 0;
            int last = 0;
            for (int wage = 0; wage <= LAST_WAGE; wage = last + 1) {
                last = Math.min(one.lastOf(i), other.lastOf(j));
                long value = one.valueIn(i, wage) - other.valueIn(j, wage);
                addStretch(wage, value, one.gains[i] - other.gains[j], last - wage);
                if (one.lastOf(i) == last && i + 1 < one.pieces) {
                    i++;
                }
                if (other.lastOf(j) == last && j + 1 < other.pieces) {
                    j++;
                }
            }
        }

        int lastOf(int piece) {
            return piece + 1 < pieces ? starts[piece + 1] - 1 : LAST_WAGE;
        }

        private int further(int piece) {
            return lastOf(piece) - starts[piece];
        }

        private long valueIn(int piece, int wage) {
            return values[piece] + (wage - starts[piece]) * gains[piece];
        }

        private long lastValue(int piece) {
            return valueIn(piece, lastOf(piece));
        }

        /** What the WAGE ahead of a PIECE (not the first one) brings. */
        private long gainInto(int piece) {
            return values[piece] - lastValue(piece - 1);
        }

        /** Calls mostly ask near the WAGE of the call ahead, so that PIECE is looked at first. */
        int pieceOf(int wage) {
            if (seat < pieces && wage >= starts[seat] && wage <= lastOf(seat)) {
                return seat;
            }
            int low = 0;
            int high = pieces - 1;
            for (int halvings = 0; halvings < MOST_HALVINGS && low < high; halvings++) {
                int middle = (low + high + 1) / 2;
                if (starts[middle] <= wage) {
                    low = middle;
                } else {
                    high = middle - 1;
                }
            }
            seat = low;
            return low;
        }

        long valueAt(int wage) {
            return valueIn(pieceOf(wage), wage);
        }

        /** How many WAGES of a PIECE have just this value. */
        private int timesIn(int piece, long value) {
            long gain = gains[piece];
            if (value < Math.min(values[piece], lastValue(piece)) || value > Math.max(values[piece], lastValue(piece))) {
                return 0;
            }
            if (gain == 0) {
                return further(piece) + 1;
            }
            return (value - values[piece]) % gain == 0 ? 1 : 0;
        }

        int wagesWith(long value) {
            int all = 0;
            for (int i = 0; i < pieces; i++) {
                all += timesIn(i, value);
            }
            return all;
        }

        int wageWith(long value, int which) {
            int left = which;
            for (int i = 0; i < pieces; i++) {
                int times = timesIn(i, value);
                if (left < times) {
                    int steps = gains[i] == 0 ? left : (int) ((value - values[i]) / gains[i]);
                    return starts[i] + steps;
                }
                left -= times;
            }
            return NONE;
        }

        /** The least WAGE, from one on, at which the line is no less. */
        int leastNoLess(int from, long value) {
            for (int i = pieceOf(from); i < pieces; i++) {
                int wage = Math.max(from, starts[i]);
                int steps = Steps.firstNoLess(valueIn(i, wage), gains[i], lastOf(i) - wage, value);
                if (steps != NONE) {
                    return wage + steps;
                }
            }
            return NONE;
        }

        int greatestNoMore(long value) {
            for (int i = pieces - 1; i >= 0; i--) {
                int steps = Steps.lastNoMore(values[i], gains[i], further(i), value);
                if (steps != NONE) {
                    return starts[i] + steps;
                }
            }
            return NONE;
        }

        /** The line is PAID: where KEPT less so many thousandths of the WAGE is no more than 0. */
        int greatestKeptNoMore(int thousandths) {
            long share = UNIT - thousandths * THOUSANDTH;
            for (int i = pieces - 1; i >= 0; i--) {
                int steps = Steps.lastNoMore(starts[i] * share - values[i], share - gains[i], further(i), 0);
                if (steps != NONE) {
                    return starts[i] + steps;
                }
            }
            return NONE;
        }

        int nearestBelow(long value) {
            int best = NONE;
            long most = 0;
            for (int i = 0; i < pieces; i++) {
                int steps = Steps.nearestNoMore(values[i], gains[i], further(i), value);
                if (steps != NONE && (best == NONE || values[i] + steps * gains[i] > most)) {
                    best = starts[i] + steps;
                    most = values[i] + steps * gains[i];
                }
            }
            return best;
        }

        private boolean cliffInto(int piece) {
            return piece > 0 && gainInto(piece) < 0;
        }

        private int cliffsIn(int piece) {
            return (cliffInto(piece) ? 1 : 0) + (gains[piece] < 0 ? further(piece) : 0);
        }

        int cliffs() {
            int all = 0;
            for (int i = 0; i < pieces; i++) {
                all += cliffsIn(i);
            }
            return all;
        }

        int cliffWage(int which) {
            int left = which;
            for (int i = 0; i < pieces; i++) {
                int here = cliffsIn(i);
                if (left < here) {
                    return starts[i] + left + (cliffInto(i) ? 0 : 1);
                }
                left -= here;
            }
            return NONE;
        }

        int backFrom(int cliff) {
            return leastNoLess(cliff, valueAt(cliff - 1));
        }

        int trapFrom(int cliff) {
            int back = backFrom(cliff);
            return (back == NONE ? LAST_WAGE + 1 : back) - cliff;
        }

        /** How many of the first WAGES of a PIECE are below the most that was ahead (none or all, if it falls). */
        private int lowAtFirst(int piece, long most) {
            int steps = Steps.firstNoLess(values[piece], gains[piece], further(piece), most);
            return steps == NONE ? further(piece) + 1 : steps;
        }

        /** A WAGE is in a TRAP if a lower one pays more: behind the last such one a CLIFF begins. */
        int trappedWages() {
            int all = 0;
            long most = values[0];
            for (int i = 0; i < pieces; i++) {
                int low = lowAtFirst(i, most);
                all += low == 0 && gains[i] < 0 ? further(i) : low;
                most = Math.max(most, Math.max(values[i], lastValue(i)));
            }
            return all;
        }

        /** The longest TRAP is the longest run of WAGES below the most so far: other CLIFFS in it are back sooner. */
        int longestTrap() {
            int longest = 0;
            int run = 0;
            long most = values[0];
            for (int i = 0; i < pieces; i++) {
                int low = lowAtFirst(i, most);
                run += low;
                longest = Math.max(longest, run);
                if (low <= further(i)) {
                    run = gains[i] < 0 ? further(i) : 0;
                    longest = Math.max(longest, run);
                }
                most = Math.max(most, Math.max(values[i], lastValue(i)));
            }
            return longest;
        }

        int wageOfMost() {
            int best = 0;
            long most = values[0];
            for (int i = 0; i < pieces; i++) {
                if (values[i] > most) {
                    best = starts[i];
                    most = values[i];
                }
                if (lastValue(i) > most) {
                    best = lastOf(i);
                    most = lastValue(i);
                }
            }
            return best;
        }

        int wageOfLeast() {
            int best = 0;
            long least = values[0];
            for (int i = 0; i < pieces; i++) {
                if (values[i] < least) {
                    best = starts[i];
                    least = values[i];
                }
                if (lastValue(i) < least) {
                    best = lastOf(i);
                    least = lastValue(i);
                }
            }
            return best;
        }

        /** The WAGE farthest from 0, of several the lowest. */
        int widest() {
            int most = wageOfMost();
            int least = wageOfLeast();
            long above = Math.abs(valueAt(most));
            long below = Math.abs(valueAt(least));
            if (above == below) {
                return Math.min(most, least);
            }
            return above > below ? most : least;
        }

        /** The first PIECE has two WAGES at least, so its gain is what WAGE 0 brings. */
        int steepest() {
            int best = 0;
            long least = gains[0];
            for (int i = 1; i < pieces; i++) {
                if (gainInto(i) < least) {
                    best = starts[i] - 1;
                    least = gainInto(i);
                }
                if (further(i) > 0 && gains[i] < least) {
                    best = starts[i];
                    least = gains[i];
                }
            }
            return best;
        }

        int flatPieces() {
            int all = 0;
            for (int i = 0; i < pieces; i++) {
                if (gains[i] == 0 && further(i) > 0) {
                    all++;
                }
            }
            return all;
        }

        int greatestPiece() {
            int best = 0;
            for (int i = 1; i < pieces; i++) {
                if (further(i) > further(best)) {
                    best = i;
                }
            }
            return best;
        }

        int jumpCount() {
            int all = 0;
            for (int i = 1; i < pieces; i++) {
                if (gainInto(i) != gains[i - 1] && gainInto(i) != gains[i]) {
                    all++;
                }
            }
            return all;
        }

        int kinkCount(boolean upwards) {
            int all = 0;
            for (int i = 1; i < pieces; i++) {
                if (upwards ? gains[i] > gains[i - 1] : gains[i] < gains[i - 1]) {
                    all++;
                }
            }
            return all;
        }

        /** Within a PIECE signs come in order, so it changes once less than it has signs. */
        int signChanges() {
            int all = 0;
            for (int i = 0; i < pieces; i++) {
                int signs = (Math.min(values[i], lastValue(i)) < 0 ? 1 : 0)
                    + (timesIn(i, 0) > 0 ? 1 : 0)
                    + (Math.max(values[i], lastValue(i)) > 0 ? 1 : 0);
                all += signs - 1;
                if (i > 0 && Long.signum(values[i]) != Long.signum(lastValue(i - 1))) {
                    all++;
                }
            }
            return all;
        }
    }

    /** Steps 0 .. last of a value that grows by the same gain each time. */
    private static final class Steps {
        static int firstNoLess(long value, long gain, int last, long limit) {
            if (value >= limit) {
                return 0;
            }
            if (gain <= 0 || value + last * gain < limit) {
                return NONE;
            }
            return (int) ((limit - value + gain - 1) / gain);
        }

        static int lastNoMore(long value, long gain, int last, long limit) {
            if (value + last * gain <= limit) {
                return last;
            }
            if (gain <= 0 || value > limit) {
                return NONE;
            }
            return (int) ((limit - value) / gain);
        }

        /** The step with the most that is no more than the limit, of several the first. */
        static int nearestNoMore(long value, long gain, int last, long limit) {
            if (gain > 0) {
                return lastNoMore(value, gain, last, limit);
            }
            if (value <= limit) {
                return 0;
            }
            if (gain == 0 || value + last * gain > limit) {
                return NONE;
            }
            return (int) ((value - limit - gain - 1) / -gain);
        }
    }

    /** The MONTHS of a YEAR; each call is given the line of PAID as it is now. */
    private static final class Year {
        final int[] wages = new int[MONTHS_OF_YEAR];
        int passed = 0;

        boolean isFull() {
            return passed >= MONTHS_OF_YEAR;
        }

        /** WAGES of the first so many MONTHS. */
        int wagesOf(int many) {
            int all = 0;
            for (int i = 0; i < many; i++) {
                all += wages[i];
            }
            return all;
        }

        /** DUE behind so many MONTHS that had these WAGES together. */
        static long due(Line paid, int many, int total) {
            if (many < 1) {
                return 0;
            }
            int wage = Math.min(LAST_WAGE, total * MONTHS_OF_YEAR / many);
            long kept = wage * UNIT - paid.valueAt(wage);
            return Math.floorDiv(kept * many, (long) MONTHS_OF_YEAR);
        }

        /** PAID of so many MONTHS that had these WAGES together. */
        static long paidOf(Line paid, int many, int total) {
            return total * UNIT - due(paid, many, total);
        }

        long paidIn(Line paid, int i) {
            int ahead = wagesOf(i);
            return wages[i] * UNIT - (due(paid, i + 1, ahead + wages[i]) - due(paid, i, ahead));
        }

        /** PAID in a MONTH, had one more with this WAGE come ahead of it. */
        long paidBehind(Line paid, int i, int wage) {
            int ahead = wagesOf(i) + wage;
            return wages[i] * UNIT - (due(paid, i + 2, ahead + wages[i]) - due(paid, i + 1, ahead));
        }

        int paidAboveWage(Line paid) {
            int all = 0;
            for (int i = 0; i < passed; i++) {
                if (paidIn(paid, i) > wages[i] * UNIT) {
                    all++;
                }
            }
            return all;
        }

        int leastPaid(Line paid) {
            int best = NONE;
            for (int i = 0; i < passed; i++) {
                if (best == NONE || paidIn(paid, i) < paidIn(paid, best)) {
                    best = i;
                }
            }
            return best;
        }

        int leastNext(Line paid, long promise) {
            int total = wagesOf(passed);
            long ahead = due(paid, passed, total);
            for (int wage = 0; wage <= LAST_WAGE; wage++) {
                if (wage * UNIT - (due(paid, passed + 1, total + wage) - ahead) >= promise) {
                    return wage;
                }
            }
            return NONE;
        }

        int leastEach(Line paid, long promise) {
            int left = MONTHS_OF_YEAR - passed;
            int total = wagesOf(passed);
            for (int wage = 0; wage <= LAST_WAGE; wage++) {
                if (paidOf(paid, MONTHS_OF_YEAR, total + left * wage) >= promise) {
                    return wage;
                }
            }
            return NONE;
        }

        int leastMonths(Line paid, int wage, long promise) {
            int total = wagesOf(passed);
            for (int more = 0; more <= MONTHS_OF_YEAR - passed; more++) {
                if (paidOf(paid, passed + more, total + more * wage) >= promise) {
                    return more;
                }
            }
            return NONE;
        }
    }

    /** Spells a CLAUSE, keeping no more of it than its length and the one byte that is wanted. */
    private static final class Speller {
        private int written = 0;
        private int wanted = NONE;
        private int found = NONE;

        /** The byte at a place; for the place NONE how many bytes there are. */
        int write(Rules rules, int row, int place) {
            written = 0;
            wanted = place;
            found = NONE;
            put(row == PAID ? 'n' : 'a' + row);
            put('=');
            writeTerms(rules, row);
            if (row != PAID) {
                writeSegments(rules, row);
            }
            return place == NONE ? written : found;
        }

        private void put(int sign) {
            if (written == wanted) {
                found = sign;
            }
            written++;
        }

        private void writeTerms(Rules rules, int row) {
            for (int i = 0; i < rules.termCounts[row]; i++) {
                if (rules.signs[row][i] < 0) {
                    put('-');
                } else if (i > 0) {
                    put('+');
                }
                put(letterOf(rules.terms[row][i]));
            }
        }

        private static int letterOf(int term) {
            if (term == WAGE_TERM) {
                return 'g';
            }
            return term == BENEFIT_TERM ? 'k' : 'a' + term;
        }

        private void writeSegments(Rules rules, int account) {
            for (int i = 0; i < rules.segmentCounts[account]; i++) {
                put('/');
                writeNumber(rules.froms[account][i]);
                put(':');
                if (rules.ats[account][i] != NONE) {
                    writeNumber(rules.ats[account][i]);
                    put(':');
                }
                writeNumber(rules.slopes[account][i]);
            }
        }

        private void writeNumber(int number) {
            for (int unit = 1000; unit >= 1; unit /= 10) {
                if (number >= unit || unit == 1) {
                    put('0' + number / unit % 10);
                }
            }
        }
    }

    /** The bits of doubles and floats, found by arithmetic alone. */
    private static final class Bits {
        private static final long INFINITE = 0x7ff0000000000000L;
        private static final long NOT_A_NUMBER = 0x7ff8000000000000L;
        private static final long TWO_TO_52 = 4503599627370496L;
        private static final int TWO_TO_23 = 8388608;
        private static final long DOUBLE_MINUS = 0x8000000000000000L;
        private static final int FLOAT_MINUS = 0x80000000;
        private static final int DOUBLE_BIAS = 1023;
        private static final int FLOAT_BIAS = 127;

        static long ofQuotient(long dividend, long divisor) {
            if (divisor != 0) {
                return ofDouble((double) dividend / (double) divisor);
            }
            if (dividend == 0) {
                return NOT_A_NUMBER;
            }
            return dividend < 0 ? INFINITE | DOUBLE_MINUS : INFINITE;
        }

        static long ofDouble(double number) {
            if (number == 0) {
                return 0;
            }
            double size = number < 0 ? -number : number;
            int power = powerOf(size);
            long bits = ((long) (power + DOUBLE_BIAS) << 52) + (long) ((scaled(size, power) - 1) * (double) TWO_TO_52);
            return number < 0 ? bits | DOUBLE_MINUS : bits;
        }

        static int ofFloat(float number) {
            if (number == 0) {
                return 0;
            }
            double size = number < 0 ? -number : number;
            int power = powerOf(size);
            int bits = ((power + FLOAT_BIAS) << 23) + (int) ((scaled(size, power) - 1) * (double) TWO_TO_23);
            return number < 0 ? bits | FLOAT_MINUS : bits;
        }

        /** The power of 2 that is just no more; all numbers here lie between 2 to -100 and 2 to 100. */
        private static int powerOf(double size) {
            double rest = size;
            int power = 0;
            for (; power < 100 && rest >= 2; power++) {
                rest = rest / 2;
            }
            for (; power > -100 && rest < 1; power--) {
                rest = rest * 2;
            }
            return power;
        }

        private static double scaled(double size, int power) {
            double rest = size;
            for (int i = 0; i < power; i++) {
                rest = rest / 2;
            }
            for (int i = 0; i > power; i--) {
                rest = rest * 2;
            }
            return rest;
        }
    }
}
