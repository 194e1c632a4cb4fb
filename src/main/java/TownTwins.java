import java.util.Arrays;
import java.util.NoSuchElementException;

/**
 * Twinned towns: charters, visits, gifts and the union's grants, as they were known on any day; homes for
 * guests, dates for visits, and friends for towns that look for one.
 */
public final class TownTwins {
    public static final int NONE = -1;

    private static final int LAST_DAY = 3599;
    private static final int DAYS_A_YEAR = 360;
    /** Behind every day: what is broken or taken back then never is. */
    private static final int NEVER = LAST_DAY + 1;

    private static final int MOST_TOWNS = 16;
    private static final int MOST_CHARTERS = 24;
    private static final int MOST_EVENTS = 200;
    private static final int MOST_TEXTS = 8;
    private static final int TAPE_ROOM = 400;
    private static final int FEED = 20;
    private static final int MOST_HOMES = 6;
    private static final int MOST_GUESTS = 8;
    private static final int MOST_BEDS = 4;
    private static final int MOST_PLANS = 6;
    private static final int MOST_DATES = 4;
    private static final int MOST_WISHES = 6;
    private static final int MOST_IN_SET = 6;
    private static final int MOST_NIGHTS = 30;
    private static final int ALL_TONGUES = 255;

    private static final int BROKEN = 0;
    private static final int VISIT = 1;
    private static final int GIFT = 2;

    private static final int TOO_MANY_TEXTS = 9;
    private static final int GENEROUS_GIFTS = 3;

    private final Known known = new Known();
    private final Towns towns = known.towns;
    private final Charters charters = known.charters;
    private final Events events = known.events;
    private final Union union = known.union;
    private final Lodging lodging = new Lodging();
    private final PlanBook planBook = new PlanBook();
    private final Friends friends = new Friends();
    private int today = 0;

    public TownTwins() {
    }

    public int town(int x, int y, int people, int tongues) {
        boolean asTold = within(x, 0, 999) && within(y, 0, 999)
                && within(people, 1, 9999) && within(tongues, 1, ALL_TONGUES);
        return asTold ? towns.add(x, y, people, tongues) : NONE;
    }

    public int charter(int a, int b, int day) throws NoSuchElementException {
        needTown(a);
        needTown(b);
        if (a == b || !isDay(day)) {
            return NONE;
        }
        return charters.add(a, b, day, today);
    }

    public int days(int n) throws IllegalArgumentException {
        if (n < 0 || n > LAST_DAY - today) {
            throw new IllegalArgumentException("days go on, and not beyond the last one");
        }
        today += n;
        return today;
    }

    public int event(int kind, int charter, int number, int side, int nights, int young, int day)
            throws NoSuchElementException {
        if (!within(kind, BROKEN, GIFT)) {
            throw new NoSuchElementException("no such kind of event");
        }
        needCharter(charter);
        if (!within(day, 0, today) || !isEventAsTold(kind, number, side, nights, young)) {
            return NONE;
        }
        int made = events.add(kind, charter, number, side, nights, young, day);
        events.stamp(made, today);
        known.forget();
        return made;
    }

    public boolean back(int event) throws NoSuchElementException {
        needEvent(event);
        known.forget();
        return events.takeBack(event, today);
    }

    public int feed(int a, int b, int c, int d, int e) {
        if (!union.hasRoom()) {
            return NONE;
        }
        union.put(a);
        union.put(b);
        union.put(c);
        union.put(d);
        union.put(e);
        return union.taped;
    }

    public int rules(int n) throws IllegalArgumentException {
        if (n < 0 || n > union.taped) {
            throw new IllegalArgumentException("the tape has not so many bytes");
        }
        known.forget();
        return union.hear(n, today);
    }

    public int fault() {
        return union.faultPlace;
    }

    public int about(int charter, int what, int day, int k) throws NoSuchElementException, IllegalArgumentException {
        needCharter(charter);
        needKind(what, 4);
        needDay(day);
        needPast(k);
        if (charters.told[charter] > k) {
            return what == 4 ? NONE : 0;
        }
        known.look(k);
        switch (what) {
            case 0:
                return known.isAlive(charter, day) ? 1 : 0;
            case 1:
                return known.turnOn(charter, day);
            case 2:
                return known.sleeps(charter, day) ? 1 : 0;
            case 3:
                return known.visitsBy(charter, day);
            default:
                return known.generousSide(charter, day);
        }
    }

    public long told(int event, int what, int k) throws NoSuchElementException, IllegalArgumentException {
        needEvent(event);
        needKind(what, 3);
        needPast(k);
        known.look(k);
        if (what == 0) {
            return known.holds(event) ? 1 : 0;
        }
        if (events.kind[event] != VISIT || !known.counts[event]) {
            return 0;
        }
        if (what == 3) {
            return known.costOf(event);
        }
        known.settleYearOf(event);
        return what == 1 ? known.claims[event] : known.grants[event];
    }

    public long balance(int charter, int side, int day, int k)
            throws NoSuchElementException, IllegalArgumentException {
        needCharter(charter);
        needKind(side, 1);
        needDay(day);
        needPast(k);
        known.look(k);
        return known.balanceOf(charter, side, day);
    }

    public void empty() {
        lodging.dismiss();
    }

    public int home(int beds, int tongues, boolean cats, int age) {
        boolean asTold = within(beds, 1, MOST_BEDS) && within(tongues, 0, ALL_TONGUES) && within(age, 0, 99);
        return asTold ? lodging.addHome(beds, tongues, cats, age) : NONE;
    }

    public int guest(int tongues, int age, boolean bearsCats) {
        boolean asTold = within(tongues, 0, ALL_TONGUES) && within(age, 0, 99);
        return asTold ? lodging.addGuest(tongues, age, bearsCats) : NONE;
    }

    public int liking(int guest, int home) throws NoSuchElementException {
        if (!within(guest, 0, lodging.guests - 1) || !within(home, 0, lodging.homes - 1)) {
            throw new NoSuchElementException("no such guest or home");
        }
        return lodging.likingOf(guest, home);
    }

    public int lodge() {
        return lodging.findBest();
    }

    public int lodged(int guest) throws NoSuchElementException {
        if (!within(guest, NONE, lodging.keptGuests - 1)) {
            throw new NoSuchElementException("nothing is kept, or no such guest in it");
        }
        return guest == NONE ? lodging.keptSum : lodging.keptHome[guest];
    }

    public int plan(int charter, int nights, int many, long days) throws NoSuchElementException {
        needCharter(charter);
        if (!within(nights, 1, MOST_NIGHTS) || !within(many, 1, MOST_DATES)) {
            return NONE;
        }
        int bothTowns = 1 << charters.a[charter] | 1 << charters.b[charter];
        return planBook.add(bothTowns, nights, many, days);
    }

    public void clear() {
        planBook.plans = 0;
    }

    public int calendar() {
        return planBook.findCalendar();
    }

    public int planned(int plan) throws NoSuchElementException {
        if (!within(plan, NONE, planBook.keptPlans - 1)) {
            throw new NoSuchElementException("nothing is kept, or no such plan in it");
        }
        return plan == NONE ? planBook.keptSum : planBook.keptDay[plan];
    }

    public boolean wish(int town, int many, int towns) throws NoSuchElementException {
        needTown(town);
        if (!within(many, 0, MOST_WISHES) || !isWish(town, many, towns)) {
            return false;
        }
        friends.setWish(town, many, towns);
        return true;
    }

    public int pair(int first, int second) {
        return areSets(first, second) ? friends.pairByFirst(first, second) : NONE;
    }

    public int friend(int town) throws NoSuchElementException {
        needTown(town);
        return friends.kept[town];
    }

    public int stables(int first, int second) {
        return areSets(first, second) ? friends.countStable(first, second) : NONE;
    }

    public int count(int what) throws NoSuchElementException {
        switch (what) {
            case 0:
                return today;
            case 1:
                return towns.count;
            case 2:
                return charters.count;
            case 3:
                return events.count;
            case 4:
                return lodging.homes;
            case 5:
                return lodging.guests;
            case 6:
                return planBook.plans;
            case 7:
                return union.texts;
            case 8:
                return union.taped;
            default:
                throw new NoSuchElementException("nothing else is counted");
        }
    }

    private static boolean within(int number, int least, int most) {
        return least <= number && number <= most;
    }

    private static boolean isDay(int day) {
        return within(day, 0, LAST_DAY);
    }

    private void needTown(int town) {
        if (!within(town, 0, towns.count - 1)) {
            throw new NoSuchElementException("no such town");
        }
    }

    private void needCharter(int charter) {
        if (!within(charter, 0, charters.count - 1)) {
            throw new NoSuchElementException("no such charter");
        }
    }

    private void needEvent(int event) {
        if (!within(event, 0, events.count - 1)) {
            throw new NoSuchElementException("no such event");
        }
    }

    private void needKind(int what, int most) {
        if (!within(what, 0, most)) {
            throw new NoSuchElementException("no such thing to ask for");
        }
    }

    private void needDay(int day) {
        if (!isDay(day)) {
            throw new NoSuchElementException("no such day");
        }
    }

    private void needPast(int k) {
        if (!within(k, 0, today)) {
            throw new IllegalArgumentException("nothing is known of a day that has not come");
        }
    }

    private static boolean isEventAsTold(int kind, int number, int side, int nights, int young) {
        if (kind == BROKEN) {
            return number == 0;
        }
        if (kind == GIFT) {
            return within(number, 1, 99999) && within(side, 0, 1);
        }
        return within(number, 1, 200) && within(side, 0, 1)
                && within(nights, 1, MOST_NIGHTS) && within(young, 0, number);
    }

    private boolean isWish(int town, int many, int row) {
        int seen = 1 << town;
        for (int i = 0; i < many; i++) {
            int wished = row >>> 4 * i & 15;
            if (wished >= towns.count || (seen & 1 << wished) != 0) {
                return false;
            }
            seen |= 1 << wished;
        }
        return true;
    }

    private boolean areSets(int first, int second) {
        int all = (1 << towns.count) - 1;
        return ((first | second) & ~all) == 0 && (first & second) == 0
                && Integer.bitCount(first) <= MOST_IN_SET && Integer.bitCount(second) <= MOST_IN_SET;
    }

    private static final class Towns {
        final int[] x = new int[MOST_TOWNS];
        final int[] y = new int[MOST_TOWNS];
        final int[] people = new int[MOST_TOWNS];
        final int[] tongues = new int[MOST_TOWNS];
        int count = 0;

        int add(int atX, int atY, int thousands, int spoken) {
            if (count >= MOST_TOWNS) {
                return NONE;
            }
            x[count] = atX;
            y[count] = atY;
            people[count] = thousands;
            tongues[count] = spoken;
            return count++;
        }

        int miles(int a, int b) {
            return Math.abs(x[a] - x[b]) + Math.abs(y[a] - y[b]);
        }

        int commonTongues(int a, int b) {
            return Integer.bitCount(tongues[a] & tongues[b]);
        }
    }

    private static final class Charters {
        final int[] a = new int[MOST_CHARTERS];
        final int[] b = new int[MOST_CHARTERS];
        final int[] from = new int[MOST_CHARTERS];
        final int[] told = new int[MOST_CHARTERS];
        int count = 0;

        int add(int first, int second, int day, int today) {
            if (count >= MOST_CHARTERS) {
                return NONE;
            }
            a[count] = first;
            b[count] = second;
            from[count] = day;
            told[count] = today;
            return count++;
        }
    }

    private static final class Events {
        final int[] kind = new int[MOST_EVENTS];
        final int[] charter = new int[MOST_EVENTS];
        final int[] number = new int[MOST_EVENTS];
        final int[] side = new int[MOST_EVENTS];
        final int[] nights = new int[MOST_EVENTS];
        final int[] young = new int[MOST_EVENTS];
        final int[] day = new int[MOST_EVENTS];
        final int[] told = new int[MOST_EVENTS];
        final int[] takenBack = new int[MOST_EVENTS];
        /** The events as they go: by days, and those of one day by their numbers. */
        final int[] order = new int[MOST_EVENTS];
        int count = 0;

        int add(int what, int of, int many, int by, int stay, int youths, int on) {
            if (count >= MOST_EVENTS) {
                return NONE;
            }
            kind[count] = what;
            charter[count] = of;
            number[count] = many;
            side[count] = by;
            nights[count] = stay;
            young[count] = youths;
            day[count] = on;
            putInOrder(count);
            return count++;
        }

        private void putInOrder(int event) {
            int at = event;
            while (at > 0 && day[order[at - 1]] > day[event]) {
                order[at] = order[at - 1];
                at--;
            }
            order[at] = event;
        }

        void stamp(int event, int today) {
            if (event != NONE) {
                told[event] = today;
                takenBack[event] = NEVER;
            }
        }

        boolean takeBack(int event, int today) {
            boolean first = takenBack[event] == NEVER;
            if (first) {
                takenBack[event] = today;
            }
            return first;
        }
    }

    /** The union: the tape that its rules come on, and the texts that it has told. */
    private static final class Union {
        int taped = 0;
        final RuleText[] shelf = new RuleText[MOST_TEXTS];
        int texts = 0;
        int faultPlace = NONE;
        final RuleReader reader = new RuleReader();
        /** What counts as long as nothing was told. */
        final RuleText silence = new RuleText(NONE, RuleText.POT, RuleText.RATE, new int[0], new int[0], new int[0]);

        boolean hasRoom() {
            return taped + FEED <= TAPE_ROOM;
        }

        void put(int fourBytes) {
            for (int shift = 24; shift >= 0 && taped < TAPE_ROOM; shift -= 8) {
                reader.text[taped++] = fourBytes >>> shift & 255;
            }
        }

        int hear(int length, int today) {
            taped = 0;
            faultPlace = NONE;
            if (texts >= MOST_TEXTS) {
                return TOO_MANY_TEXTS;
            }
            reader.start(length);
            for (int clause = 0; clause <= RuleText.MOST_CLAUSES && reader.hasMore(); clause++) {
                reader.readClause(clause);
            }
            if (reader.fault != 0) {
                faultPlace = reader.place;
                return reader.fault;
            }
            shelf[texts++] = reader.textTold(today);
            return 0;
        }

        RuleText textOn(int k) {
            RuleText last = silence;
            for (int i = 0; i < texts; i++) {
                RuleText text = shelf[i];
                if (text != null && text.told <= k) {
                    last = text;
                }
            }
            return last;
        }
    }

    /** Rules that were understood: each formula as a row of steps for a stack. */
    private static final class RuleText {
        static final int POT = 100000;
        static final int RATE = 20;
        static final int MOST_CLAUSES = 12;
        static final long MOST_GRANT = 999999;
        static final int SLEEPY = 1080;

        static final int GRANT = 0;
        static final int SLEEP = 1;

        static final int GUESTS = 0;
        static final int NIGHTS = 1;
        static final int YOUNG = 2;
        static final int MILES = 3;
        static final int PEOPLE = 4;
        static final int COMMON = 5;
        static final int TURN = 6;
        static final int SINCE = 7;
        static final int AGE = 8;
        static final int VISITS = 9;
        static final int YEAR = 10;
        static final int VALUES = 11;

        /** Steps: a number stands for itself, so all others are below 0; a value v is FIRST_VALUE - v. */
        static final int OR = -1;
        static final int AND = -2;
        static final int NOT = -3;
        static final int LESS = -4;
        static final int LIKE = -5;
        static final int PLUS = -6;
        static final int MINUS = -7;
        static final int TIMES = -8;
        static final int BY = -9;
        static final int UNLESS = -10;
        static final int FIRST_VALUE = -11;

        /** Six expressions within each other hold back five left sides each, and 'unless' one more. */
        static final int STACK_ROOM = 40;

        final int told;
        final int pot;
        final int rate;
        final int[] kinds;
        final int[] ends;
        final int[] steps;

        RuleText(int told, int pot, int rate, int[] kinds, int[] ends, int[] steps) {
            this.told = told;
            this.pot = pot;
            this.rate = rate;
            this.kinds = kinds;
            this.ends = ends;
            this.steps = steps;
        }

        long claim(long[] values, long[] stack) {
            long sum = 0;
            for (int i = 0; i < kinds.length; i++) {
                if (kinds[i] == GRANT) {
                    sum += Math.max(0L, Math.min(MOST_GRANT, worth(i, values, stack)));
                }
            }
            return sum;
        }

        boolean sleeps(long[] values, long[] stack) {
            boolean any = false;
            for (int i = 0; i < kinds.length; i++) {
                if (kinds[i] == SLEEP) {
                    any = true;
                    if (worth(i, values, stack) != 0) {
                        return true;
                    }
                }
            }
            return !any && values[SINCE] > SLEEPY;
        }

        private long worth(int formula, long[] values, long[] stack) {
            int top = 0;
            int start = formula == 0 ? 0 : ends[formula - 1];
            for (int at = start; at < ends[formula]; at++) {
                int step = steps[at];
                if (step == NOT) {
                    if (top >= 1) {
                        stack[top - 1] = stack[top - 1] == 0 ? 1 : 0;
                    }
                } else if (step < 0 && step > FIRST_VALUE) {
                    if (top >= 2) {
                        top--;
                        stack[top - 1] = joined(step, stack[top - 1], stack[top]);
                    }
                } else if (top < stack.length) {
                    stack[top++] = step >= 0 ? step : values[FIRST_VALUE - step];
                }
            }
            return stack[0];
        }

        private static long joined(int step, long left, long right) {
            switch (step) {
                case OR:
                    return left != 0 || right != 0 ? 1 : 0;
                case AND:
                    return left != 0 && right != 0 ? 1 : 0;
                case LESS:
                    return left < right ? 1 : 0;
                case LIKE:
                    return left == right ? 1 : 0;
                case PLUS:
                    return left + right;
                case MINUS:
                    return left - right;
                case TIMES:
                    return left * right;
                case BY:
                    return right == 0 ? 0 : left / right;
                default:
                    return right != 0 ? 0 : left;
            }
        }
    }

    /**
     * Reads rules from the tape, which it holds, by descent. After a fault no token stands there any more,
     * so that every loop ends by itself and the first fault stays.
     */
    private static final class RuleReader {
        static final int DEEPEST = 6;
        static final int MOST_NOTS = 6;
        static final int MOST_DIGITS = 6;

        static final int MISPLACED = 1;
        static final int TOO_MUCH = 2;
        static final int NO_VALUE = 3;

        /** Kinds of tokens; a sign is its own byte. */
        static final int END = -1;
        static final int WORD = -2;
        static final int NUMBER = -3;
        static final int STOPPED = -4;

        final int[] text = new int[TAPE_ROOM];
        int length = 0;
        int token = END;
        int from = 0;
        int behind = 0;
        int fault = 0;
        int place = 0;

        final int[] steps = new int[TAPE_ROOM];
        int size = 0;
        final int[] kinds = new int[RuleText.MOST_CLAUSES];
        final int[] ends = new int[RuleText.MOST_CLAUSES];
        int formulas = 0;
        int pot = 0;
        int rate = 0;

        void start(int bytes) {
            length = Math.min(bytes, text.length);
            behind = 0;
            fault = 0;
            size = 0;
            formulas = 0;
            pot = RuleText.POT;
            rate = RuleText.RATE;
            advance();
        }

        boolean hasMore() {
            return token != END && token != STOPPED;
        }

        RuleText textTold(int today) {
            return new RuleText(today, pot, rate, Arrays.copyOf(kinds, formulas), Arrays.copyOf(ends, formulas),
                    Arrays.copyOf(steps, size));
        }

        void readClause(int clause) {
            boolean grants = isWord("grant");
            boolean pots = isWord("pot");
            boolean hasFormula = grants || isWord("sleep");
            if (!hasFormula && !pots && !isWord("rate")) {
                refuse(MISPLACED);
            } else if (clause >= RuleText.MOST_CLAUSES) {
                refuse(TOO_MUCH);
            }
            advance();
            if (hasFormula) {
                readExpr(0);
                if (isWord("unless")) {
                    advance();
                    readExpr(0);
                    put(RuleText.UNLESS);
                }
                keepFormula(grants ? RuleText.GRANT : RuleText.SLEEP);
            } else {
                int number = readNumber();
                pot = pots ? number : pot;
                rate = pots ? rate : number;
            }
            readSign(';');
        }

        private void keepFormula(int kind) {
            if (formulas < RuleText.MOST_CLAUSES) {
                kinds[formulas] = kind;
                ends[formulas] = size;
                formulas++;
            }
        }

        private void readExpr(int depth) {
            if (depth >= DEEPEST) {
                refuse(token == NUMBER || token == WORD || token == '(' ? TOO_MUCH : MISPLACED);
                return;
            }
            readAnd(depth);
            for (int i = 0; i < TAPE_ROOM && isWord("or"); i++) {
                advance();
                readAnd(depth);
                put(RuleText.OR);
            }
        }

        private void readAnd(int depth) {
            readNot(depth);
            for (int i = 0; i < TAPE_ROOM && isWord("and"); i++) {
                advance();
                readNot(depth);
                put(RuleText.AND);
            }
        }

        private void readNot(int depth) {
            int nots = 0;
            while (nots < MOST_NOTS && isWord("not")) {
                nots++;
                advance();
            }
            if (isWord("not")) {
                refuse(TOO_MUCH);
            }
            readSum(depth);
            if (token == '<' || token == '=') {
                int step = token == '<' ? RuleText.LESS : RuleText.LIKE;
                advance();
                readSum(depth);
                put(step);
            }
            for (int i = 0; i < nots; i++) {
                put(RuleText.NOT);
            }
        }

        private void readSum(int depth) {
            readProduct(depth);
            for (int i = 0; i < TAPE_ROOM && (token == '+' || token == '-'); i++) {
                int step = token == '+' ? RuleText.PLUS : RuleText.MINUS;
                advance();
                readProduct(depth);
                put(step);
            }
        }

        private void readProduct(int depth) {
            readPart(depth);
            for (int i = 0; i < TAPE_ROOM && (token == '*' || token == '/'); i++) {
                int step = token == '*' ? RuleText.TIMES : RuleText.BY;
                advance();
                readPart(depth);
                put(step);
            }
        }

        private void readPart(int depth) {
            if (token == WORD) {
                int value = valueNamed();
                if (value == NONE) {
                    refuse(NO_VALUE);
                } else {
                    put(RuleText.FIRST_VALUE - value);
                    advance();
                }
            } else if (token == '(') {
                advance();
                readExpr(depth + 1);
                readSign(')');
            } else {
                put(readNumber());
            }
        }

        private int readNumber() {
            if (token != NUMBER) {
                refuse(MISPLACED);
                return 0;
            }
            if (behind - from > MOST_DIGITS) {
                refuse(TOO_MUCH);
                return 0;
            }
            int number = 0;
            for (int i = from; i < behind; i++) {
                number = number * 10 + text[i] - '0';
            }
            advance();
            return number;
        }

        private void readSign(char sign) {
            if (token == sign) {
                advance();
            } else {
                refuse(MISPLACED);
            }
        }

        private void put(int step) {
            if (size < TAPE_ROOM) {
                steps[size++] = step;
            }
        }

        private void refuse(int why) {
            if (fault == 0) {
                fault = why;
                place = from;
            }
            token = STOPPED;
        }

        /** Goes on to the next token; one that is none is taken for a sign that stands nowhere. */
        private void advance() {
            if (fault != 0) {
                return;
            }
            from = behind;
            while (from < length && (text[from] == ' ' || text[from] == '\n')) {
                from++;
            }
            behind = from;
            if (from >= length) {
                token = END;
                return;
            }
            token = kindOf(text[from]);
            behind++;
            while (token < 0 && behind < length && kindOf(text[behind]) == token) {
                behind++;
            }
        }

        private static int kindOf(int sign) {
            if ('a' <= sign && sign <= 'z') {
                return WORD;
            }
            return '0' <= sign && sign <= '9' ? NUMBER : sign;
        }

        private int valueNamed() {
            for (int value = 0; value < RuleText.VALUES; value++) {
                if (isWord(nameOf(value))) {
                    return value;
                }
            }
            return NONE;
        }

        private static String nameOf(int value) {
            switch (value) {
                case RuleText.GUESTS:
                    return "guests";
                case RuleText.NIGHTS:
                    return "nights";
                case RuleText.YOUNG:
                    return "young";
                case RuleText.MILES:
                    return "miles";
                case RuleText.PEOPLE:
                    return "people";
                case RuleText.COMMON:
                    return "common";
                case RuleText.TURN:
                    return "turn";
                case RuleText.SINCE:
                    return "since";
                case RuleText.AGE:
                    return "age";
                case RuleText.VISITS:
                    return "visits";
                default:
                    return "year";
            }
        }

        private boolean isWord(String name) {
            if (token != WORD || behind - from != name.length()) {
                return false;
            }
            for (int i = 0; i < name.length(); i++) {
                if (text[from + i] != name.charAt(i)) {
                    return false;
                }
            }
            return true;
        }
    }

    /** All that was told, and what was known of it on one day: kept until another day or news is asked of. */
    private static final class Known {
        final Towns towns = new Towns();
        final Charters charters = new Charters();
        final Events events = new Events();
        final Union union = new Union();

        int dayLookedAt = NONE;
        RuleText text = union.silence;
        final int[] brokenFrom = new int[MOST_CHARTERS];
        final boolean[] counts = new boolean[MOST_EVENTS];
        /** Of a visit or gift that counts: the last one of its kind and charter ahead of it, and how many are. */
        final int[] previous = new int[MOST_EVENTS];
        final int[] ahead = new int[MOST_EVENTS];
        final int[] lastVisit = new int[MOST_CHARTERS];
        final int[] lastGift = new int[MOST_CHARTERS];

        /** A bit for each year whose claims and grants have been worked out. */
        int settledYears = 0;
        final long[] claims = new long[MOST_EVENTS];
        final long[] grants = new long[MOST_EVENTS];
        final int[] yearRow = new int[MOST_EVENTS];
        final long[] lost = new long[MOST_EVENTS];
        final long[] values = new long[RuleText.VALUES];
        final long[] stack = new long[RuleText.STACK_ROOM];

        void forget() {
            dayLookedAt = NONE;
        }

        void look(int k) {
            if (dayLookedAt == k) {
                return;
            }
            dayLookedAt = k;
            settledYears = 0;
            text = union.textOn(k);
            findBreaks();
            Arrays.fill(lastVisit, NONE);
            Arrays.fill(lastGift, NONE);
            for (int i = 0; i < events.count; i++) {
                int e = events.order[i];
                counts[e] = events.kind[e] != BROKEN && isKnown(e) && isAlive(events.charter[e], events.day[e]);
                if (counts[e]) {
                    chain(e, events.kind[e] == VISIT ? lastVisit : lastGift);
                }
            }
        }

        private void findBreaks() {
            Arrays.fill(brokenFrom, NEVER);
            for (int e = 0; e < events.count; e++) {
                if (events.kind[e] == BROKEN && isKnown(e)) {
                    int charter = events.charter[e];
                    brokenFrom[charter] = Math.min(brokenFrom[charter], events.day[e]);
                }
            }
        }

        private void chain(int event, int[] last) {
            int charter = events.charter[event];
            previous[event] = last[charter];
            ahead[event] = last[charter] == NONE ? 0 : ahead[last[charter]] + 1;
            last[charter] = event;
        }

        private boolean isKnown(int event) {
            return events.told[event] <= dayLookedAt && dayLookedAt < events.takenBack[event];
        }

        boolean isAlive(int charter, int day) {
            return charters.from[charter] <= day && day < brokenFrom[charter];
        }

        boolean holds(int event) {
            return events.kind[event] == BROKEN ? isKnown(event) : counts[event];
        }

        private int lastBy(int day, int[] last, int charter) {
            int event = last[charter];
            for (int i = 0; i < MOST_EVENTS && event != NONE && events.day[event] > day; i++) {
                event = previous[event];
            }
            return event;
        }

        int visitsBy(int charter, int day) {
            return upTo(lastBy(day, lastVisit, charter));
        }

        private int upTo(int event) {
            return event == NONE ? 0 : ahead[event] + 1;
        }

        int turnOn(int charter, int day) {
            return turnAfter(lastBy(day, lastVisit, charter));
        }

        private int turnAfter(int visit) {
            return visit == NONE ? 0 : 1 - events.side[visit];
        }

        int generousSide(int charter, int day) {
            int gift = lastBy(day, lastGift, charter);
            int side = gift == NONE ? NONE : events.side[gift];
            for (int gifts = 1; gifts < GENEROUS_GIFTS && gift != NONE; gifts++) {
                gift = previous[gift];
                if (gift == NONE || events.side[gift] != side) {
                    return NONE;
                }
            }
            return side;
        }

        boolean sleeps(int charter, int day) {
            if (!isAlive(charter, day)) {
                return false;
            }
            int last = lastBy(day, lastVisit, charter);
            setShared(charter, day, last);
            values[RuleText.GUESTS] = 0;
            values[RuleText.NIGHTS] = 0;
            values[RuleText.YOUNG] = 0;
            values[RuleText.PEOPLE] = towns.people[charters.a[charter]] + towns.people[charters.b[charter]];
            values[RuleText.TURN] = turnAfter(last);
            return text.sleeps(values, stack);
        }

        private long claimOf(int visit) {
            int charter = events.charter[visit];
            int side = events.side[visit];
            setShared(charter, events.day[visit], previous[visit]);
            values[RuleText.GUESTS] = events.number[visit];
            values[RuleText.NIGHTS] = events.nights[visit];
            values[RuleText.YOUNG] = events.young[visit];
            values[RuleText.PEOPLE] = towns.people[side == 0 ? charters.a[charter] : charters.b[charter]];
            values[RuleText.TURN] = turnAfter(previous[visit]) == side ? 1 : 0;
            return text.claim(values, stack);
        }

        /** Sets the values that have one meaning for visits and for sleep. */
        private void setShared(int charter, int day, int lastAhead) {
            int a = charters.a[charter];
            int b = charters.b[charter];
            values[RuleText.MILES] = towns.miles(a, b);
            values[RuleText.COMMON] = towns.commonTongues(a, b);
            values[RuleText.SINCE] = day - (lastAhead == NONE ? charters.from[charter] : events.day[lastAhead]);
            values[RuleText.AGE] = day - charters.from[charter];
            values[RuleText.VISITS] = upTo(lastAhead);
            values[RuleText.YEAR] = day / DAYS_A_YEAR;
        }

        long costOf(int visit) {
            return (long) events.number[visit] * events.nights[visit] * text.rate;
        }

        void settleYearOf(int event) {
            int year = events.day[event] / DAYS_A_YEAR;
            if ((settledYears & 1 << year) != 0) {
                return;
            }
            settledYears |= 1 << year;
            int many = listVisits(year);
            long all = 0;
            for (int i = 0; i < many; i++) {
                int visit = yearRow[i];
                claims[visit] = claimOf(visit);
                grants[visit] = claims[visit];
                all += claims[visit];
            }
            if (all > text.pot) {
                sharePot(many, all);
            }
        }

        private int listVisits(int year) {
            int many = 0;
            for (int i = 0; i < events.count; i++) {
                int e = events.order[i];
                if (counts[e] && events.kind[e] == VISIT && events.day[e] / DAYS_A_YEAR == year) {
                    yearRow[many++] = e;
                }
            }
            return many;
        }

        private void sharePot(int many, long all) {
            if (all <= 0) {
                return;
            }
            long left = text.pot;
            for (int i = 0; i < many; i++) {
                long part = text.pot * claims[yearRow[i]];
                grants[yearRow[i]] = part / all;
                lost[i] = part % all;
                left -= part / all;
            }
            for (int i = 0; i < many; i++) {
                if (losersAhead(i, many) < left) {
                    grants[yearRow[i]]++;
                }
            }
        }

        private int losersAhead(int place, int many) {
            int losers = 0;
            for (int i = 0; i < many; i++) {
                if (lost[i] > lost[place] || lost[i] == lost[place] && i < place) {
                    losers++;
                }
            }
            return losers;
        }

        long balanceOf(int charter, int side, int day) {
            long sum = 0;
            for (int e = 0; e < events.count; e++) {
                if (counts[e] && events.charter[e] == charter && events.day[e] <= day) {
                    if (events.kind[e] == VISIT) {
                        settleYearOf(e);
                        sum += borneBy(side, e);
                    } else if (events.side[e] == side) {
                        sum += events.number[e];
                    }
                }
            }
            return sum;
        }

        private long borneBy(int side, int visit) {
            long cost = costOf(visit);
            long half = cost / 2;
            return events.side[visit] == side ? cost - half - grants[visit] : half;
        }
    }

    /** Homes and guests. A home's number behind all of them stands for no home at all. */
    private static final class Lodging {
        static final int NOWHERE = MOST_HOMES;
        static final int COLUMNS = MOST_HOMES * MOST_BEDS + MOST_GUESTS;
        /** One point of liking weighs more than any row of homes (7 to the 8th), one guest more than any liking. */
        static final long A_POINT = 5764801;
        static final long A_GUEST = 300 * A_POINT;
        static final long FORBIDDEN = 100 * A_GUEST;
        static final long ENDLESS = 1L << 60;

        int homes = 0;
        final int[] beds = new int[MOST_HOMES];
        final int[] homeTongues = new int[MOST_HOMES];
        final boolean[] cats = new boolean[MOST_HOMES];
        final int[] homeAge = new int[MOST_HOMES];
        int guests = 0;
        final int[] guestTongues = new int[MOST_GUESTS];
        final int[] guestAge = new int[MOST_GUESTS];
        final boolean[] bearsCats = new boolean[MOST_GUESTS];

        int keptGuests = NONE;
        int keptSum = 0;
        final int[] keptHome = new int[MOST_GUESTS];

        final Matching matching = new Matching();

        void dismiss() {
            homes = 0;
            guests = 0;
        }

        int addHome(int bedsThere, int tongues, boolean withCats, int age) {
            if (homes >= MOST_HOMES) {
                return NONE;
            }
            beds[homes] = bedsThere;
            homeTongues[homes] = tongues;
            cats[homes] = withCats;
            homeAge[homes] = age;
            return homes++;
        }

        int addGuest(int tongues, int age, boolean bears) {
            if (guests >= MOST_GUESTS) {
                return NONE;
            }
            guestTongues[guests] = tongues;
            guestAge[guests] = age;
            bearsCats[guests] = bears;
            return guests++;
        }

        int likingOf(int guest, int home) {
            int alike = Integer.bitCount(guestTongues[guest] & homeTongues[home]);
            if (alike == 0 || cats[home] && !bearsCats[guest]) {
                return NONE;
            }
            return 3 * alike + Math.max(0, 10 - Math.abs(guestAge[guest] - homeAge[home]));
        }

        int findBest() {
            setCosts();
            setColumns();
            matching.solve(guests);
            keptGuests = guests;
            keptSum = 0;
            int housed = 0;
            for (int g = 0; g < guests; g++) {
                int home = matching.kindGivenTo(g);
                keptHome[g] = home == NOWHERE ? NONE : home;
                if (home != NOWHERE) {
                    keptSum += likingOf(g, home);
                    housed++;
                }
            }
            return housed;
        }

        /** The whole order of THE BEST goes into one sum: guests, then likings, then the row as a number. */
        private void setCosts() {
            long digit = 1;
            for (int g = guests - 1; g >= 0; g--) {
                for (int h = 0; h < homes; h++) {
                    int liking = likingOf(g, h);
                    matching.cost[g][h] = liking == NONE ? FORBIDDEN : h * digit - liking * A_POINT - A_GUEST;
                }
                matching.cost[g][NOWHERE] = NOWHERE * digit;
                digit *= MOST_HOMES + 1;
            }
        }

        private void setColumns() {
            matching.columns = 0;
            for (int h = 0; h < homes; h++) {
                matching.addColumns(h, beds[h]);
            }
            matching.addColumns(NOWHERE, guests);
        }
    }

    /**
     * The cheapest way to give each row a column of its own, row by row along shortest ways under prices.
     * Rows and columns are counted from 1, so that 0 can stand for none; a column's cost goes by its kind.
     */
    private static final class Matching {
        final long[][] cost = new long[MOST_GUESTS][MOST_HOMES + 1];
        final int[] kind = new int[Lodging.COLUMNS + 1];
        int columns = 0;

        final long[] rowPrice = new long[MOST_GUESTS + 1];
        final long[] columnPrice = new long[Lodging.COLUMNS + 1];
        final int[] rowOf = new int[Lodging.COLUMNS + 1];
        final int[] cameFrom = new int[Lodging.COLUMNS + 1];
        final long[] way = new long[Lodging.COLUMNS + 1];
        final boolean[] reached = new boolean[Lodging.COLUMNS + 1];

        void addColumns(int ofKind, int many) {
            for (int i = 0; i < many && columns < Lodging.COLUMNS; i++) {
                columns++;
                kind[columns] = ofKind;
            }
        }

        void solve(int rows) {
            Arrays.fill(rowPrice, 0);
            Arrays.fill(columnPrice, 0);
            Arrays.fill(rowOf, 0);
            for (int row = 1; row <= rows; row++) {
                addRow(row);
            }
        }

        int kindGivenTo(int row) {
            for (int column = 1; column <= columns; column++) {
                if (rowOf[column] == row + 1) {
                    return kind[column];
                }
            }
            return Lodging.NOWHERE;
        }

        private void addRow(int row) {
            Arrays.fill(way, Lodging.ENDLESS);
            for (int column = 0; column <= columns; column++) {
                reached[column] = false;
            }
            rowOf[0] = row;
            int at = 0;
            for (int step = 0; step <= columns && rowOf[at] != 0; step++) {
                reached[at] = true;
                lookFrom(at);
                int next = nearest();
                moveBy(way[next]);
                at = next;
            }
            for (int step = 0; step <= columns && at != 0; step++) {
                rowOf[at] = rowOf[cameFrom[at]];
                at = cameFrom[at];
            }
        }

        private void lookFrom(int at) {
            int row = rowOf[at];
            for (int column = 1; column <= columns; column++) {
                if (!reached[column]) {
                    long far = cost[row - 1][kind[column]] - rowPrice[row] - columnPrice[column];
                    if (far < way[column]) {
                        way[column] = far;
                        cameFrom[column] = at;
                    }
                }
            }
        }

        private int nearest() {
            int best = 0;
            for (int column = 1; column <= columns; column++) {
                if (!reached[column] && (best == 0 || way[column] < way[best])) {
                    best = column;
                }
            }
            return best;
        }

        private void moveBy(long far) {
            for (int column = 0; column <= columns; column++) {
                if (reached[column]) {
                    rowPrice[rowOf[column]] += far;
                    columnPrice[column] -= far;
                } else {
                    way[column] -= far;
                }
            }
        }
    }

    /** Plans for a year's visits; date d of plan p has the bit p * MOST_DATES + d. */
    private static final class PlanBook {
        int plans = 0;
        final int[] towns = new int[MOST_PLANS];
        final int[] nights = new int[MOST_PLANS];
        final int[] many = new int[MOST_PLANS];
        final int[] dates = new int[MOST_PLANS * MOST_DATES];

        int keptPlans = NONE;
        int keptSum = 0;
        final int[] keptDay = new int[MOST_PLANS];

        final int[] clashes = new int[MOST_PLANS * MOST_DATES];
        final int[] dayNow = new int[MOST_PLANS];
        int mostPlaced = NONE;

        int add(int bothTowns, int stay, int manyDates, long days) {
            if (plans >= MOST_PLANS) {
                return NONE;
            }
            for (int d = 0; d < manyDates; d++) {
                int day = (int) (days >>> 12 * d & 4095);
                if (!isDay(day)) {
                    return NONE;
                }
                dates[plans * MOST_DATES + d] = day;
            }
            towns[plans] = bothTowns;
            nights[plans] = stay;
            many[plans] = manyDates;
            return plans++;
        }

        int findCalendar() {
            for (int p = 0; p < plans; p++) {
                for (int d = 0; d < many[p]; d++) {
                    clashes[p * MOST_DATES + d] = clashesAhead(p, dates[p * MOST_DATES + d]);
                }
            }
            keptPlans = plans;
            mostPlaced = NONE;
            search(0, 0, 0, 0);
            return mostPlaced;
        }

        /** The dates of the plans ahead that clash with this one on that day. */
        private int clashesAhead(int plan, int day) {
            int bits = 0;
            for (int p = 0; p < plan; p++) {
                for (int d = 0; d < many[p]; d++) {
                    int other = dates[p * MOST_DATES + d];
                    if ((towns[p] & towns[plan]) != 0 && day <= other + nights[p] && other <= day + nights[plan]) {
                        bits |= 1 << p * MOST_DATES + d;
                    }
                }
            }
            return bits;
        }

        /** Rows are tried in their order, and only a better one takes the place of what is kept. */
        private void search(int plan, int taken, int placed, int sum) {
            int atMost = placed + plans - plan;
            if (atMost < mostPlaced || atMost == mostPlaced && sum >= keptSum) {
                return;
            }
            if (plan >= plans) {
                mostPlaced = placed;
                keptSum = sum;
                System.arraycopy(dayNow, 0, keptDay, 0, MOST_PLANS);
                return;
            }
            for (int d = 0; d < many[plan]; d++) {
                int date = plan * MOST_DATES + d;
                if ((clashes[date] & taken) == 0) {
                    dayNow[plan] = dates[date];
                    search(plan + 1, taken | 1 << date, placed + 1, sum + dates[date]);
                }
            }
            dayNow[plan] = NONE;
            search(plan + 1, taken, placed, sum);
        }
    }

    /** Wishes of towns, the pairing that is kept, and the search through all pairings. */
    private static final class Friends {
        /** Each round somebody asks, and each of a set asks at most so many. */
        static final int MOST_ROUNDS = MOST_IN_SET * MOST_WISHES + 1;

        final int[][] wishes = new int[MOST_TOWNS][MOST_WISHES];
        final int[] many = new int[MOST_TOWNS];
        final int[][] rank = new int[MOST_TOWNS][MOST_TOWNS];
        final int[] kept = new int[MOST_TOWNS];

        final int[] asked = new int[MOST_TOWNS];
        final int[] mate = new int[MOST_TOWNS];
        final int[] firsts = new int[MOST_IN_SET];
        final int[] seconds = new int[MOST_IN_SET];
        int firstCount = 0;
        int secondCount = 0;

        Friends() {
            for (int t = 0; t < MOST_TOWNS; t++) {
                Arrays.fill(rank[t], NONE);
            }
            Arrays.fill(kept, NONE);
        }

        void setWish(int town, int manyWishes, int row) {
            Arrays.fill(rank[town], NONE);
            for (int i = 0; i < manyWishes; i++) {
                int wished = row >>> 4 * i & 15;
                wishes[town][i] = wished;
                rank[town][wished] = i;
            }
            many[town] = manyWishes;
        }

        int pairByFirst(int first, int second) {
            firstCount = listTowns(first, firsts);
            Arrays.fill(kept, NONE);
            Arrays.fill(asked, 0);
            boolean someAsked = true;
            for (int round = 0; round < MOST_ROUNDS && someAsked; round++) {
                someAsked = false;
                for (int i = 0; i < firstCount; i++) {
                    int town = firsts[i];
                    if (kept[town] == NONE && asked[town] < many[town]) {
                        ask(town, wishes[town][asked[town]++], second);
                        someAsked = true;
                    }
                }
            }
            int pairs = 0;
            for (int i = 0; i < firstCount; i++) {
                pairs += kept[firsts[i]] == NONE ? 0 : 1;
            }
            return pairs;
        }

        private void ask(int town, int other, int second) {
            if ((second & 1 << other) == 0 || rank[other][town] == NONE) {
                return;
            }
            int friendNow = kept[other];
            if (friendNow != NONE) {
                if (rank[other][friendNow] < rank[other][town]) {
                    return;
                }
                kept[friendNow] = NONE;
            }
            kept[other] = town;
            kept[town] = other;
        }

        int countStable(int first, int second) {
            firstCount = listTowns(first, firsts);
            secondCount = listTowns(second, seconds);
            Arrays.fill(mate, NONE);
            return countFrom(0);
        }

        private static int listTowns(int set, int[] row) {
            int size = 0;
            for (int t = 0; t < MOST_TOWNS && size < row.length; t++) {
                if ((set & 1 << t) != 0) {
                    row[size++] = t;
                }
            }
            return size;
        }

        private int countFrom(int at) {
            if (at >= firstCount) {
                return isAnySecondLeft() ? 0 : 1;
            }
            int town = firsts[at];
            int found = isQuarrel(at) ? 0 : countFrom(at + 1);
            for (int i = 0; i < secondCount; i++) {
                int other = seconds[i];
                if (mate[other] == NONE && areWished(town, other)) {
                    mate[town] = other;
                    mate[other] = town;
                    found += isQuarrel(at) ? 0 : countFrom(at + 1);
                    mate[town] = NONE;
                    mate[other] = NONE;
                }
            }
            return found;
        }

        private boolean areWished(int town, int other) {
            return rank[town][other] != NONE && rank[other][town] != NONE;
        }

        /** Whether the one placed last and a friend of one ahead, or the other way round, would rather leave. */
        private boolean isQuarrel(int at) {
            int town = firsts[at];
            for (int i = 0; i < at; i++) {
                int ahead = firsts[i];
                if (wouldLeave(town, mate[ahead]) || wouldLeave(ahead, mate[town])) {
                    return true;
                }
            }
            return false;
        }

        private boolean isAnySecondLeft() {
            for (int i = 0; i < secondCount; i++) {
                for (int j = 0; j < firstCount; j++) {
                    if (mate[seconds[i]] == NONE && wouldLeave(firsts[j], seconds[i])) {
                        return true;
                    }
                }
            }
            return false;
        }

        private boolean wouldLeave(int town, int other) {
            return other != NONE && areWished(town, other) && prefers(town, other) && prefers(other, town);
        }

        private boolean prefers(int town, int other) {
            return mate[town] == NONE || rank[town][other] < rank[town][mate[town]];
        }
    }
}
