import java.util.NoSuchElementException;

/** People at a counter with cases of a limit each; ../shared/DOC.md tells what each call answers. */
public final class PoundsOver {
    public static final int NONE = -1;

    private static final int SPENT = -2;

    private static final int MOST_PEOPLE = 4;
    private static final int MOST_CASES = 5;
    private static final int MOST_THINGS = 12;
    private static final int MOST_POSTS = 6;
    private static final int MOST_BYTES = 700;
    private static final int BYTES_FED = 20;
    private static final int MOST_ACTS = 40;
    private static final int MOST_SEEN = 6;
    private static final int MOST_WEIGHT_SEEN = 999;
    private static final int MOST_POUNDS = 200;
    private static final int MOST_SHIFTS = 200;
    private static final int MOST_DIGITS = 4;
    private static final int MOST_NUMBER = 9999;
    private static final int TOO_MANY_DIGITS = MOST_NUMBER + 1;
    // An EXPR within 6 others is too deep, so the deepest one has 5 around it.
    private static final int MOST_DEPTH = 5;
    private static final int MOST_NOTS = 6;
    // At most 'or', 'and', a test, a sum and a product wait at each depth, and the number that comes last.
    private static final int MOST_PENDING = 5 * (MOST_DEPTH + 1) + 1;
    private static final int FEE_A_POUND = 10;
    private static final int MOST_IN_POCKET = 2;
    private static final int MOST_PACKED = 8;
    private static final int MOST_SETS = 1 << MOST_THINGS;

    // The columns of people, cases, things and posts, as promises 6 to 8 number them.
    private static final int OWN = 0;
    private static final int POCKETS = 1;
    private static final int BEARS = 2;

    private static final int OWNER = 0;
    private static final int LIMIT = 1;
    private static final int HOLDS = 2;
    private static final int COST = 3;
    private static final int BOARD = 4;

    private static final int KIND = 0;
    private static final int WEIGHT = 1;
    private static final int UNSURE = 2;
    private static final int SIZE = 3;
    private static final int VALUE = 4;
    private static final int FIRST_CASE = 5;
    private static final int HEAT = 6;

    private static final int UP_TO = 0;
    private static final int PRICE = 1;

    private static final int COAT = 1;
    private static final int SHARP = 2;
    private static final int GLASS = 3;
    private static final int FOOD = 4;
    private static final int SHIRT = 5;

    private static final int ON_PEOPLE = 10;
    private static final int THROWN = 20;
    private static final int POSTED = 21;
    private static final int EATEN = 22;
    private static final int PLACES = 23;

    private static final int STAYS = 0;
    private static final int IS_THROWN = 1;
    private static final int IS_POSTED = 2;

    private static final int FAULT_TOKEN = 1;
    private static final int FAULT_TOO_MUCH = 2;
    private static final int FAULT_NOT_TOLD = 3;
    private static final int FAULT_POST = 4;
    private static final int FAULT_SECOND = 5;
    private static final int FAULT_CASE = 6;

    private static final int TEXTS_REFUSED = 0;
    private static final int ACTS_REFUSED = 1;
    private static final int SEEN_REFUSED = 2;

    // Kinds of tokens; a sign's kind is its own byte.
    private static final int TEXT_END = 0;
    private static final int WORD = 1;
    private static final int NUMBER = 2;
    private static final int NO_TOKEN = 3;

    // What a rule does that is no number to be pushed; its values are -1 to -5.
    private static final int DO_OR = -10;
    private static final int DO_AND = -11;
    private static final int DO_NOT = -12;
    private static final int DO_LESS = -13;
    private static final int DO_EQUAL = -14;
    private static final int DO_ADD = -15;
    private static final int DO_SUBTRACT = -16;
    private static final int DO_MULTIPLY = -17;
    private static final int DO_DIVIDE = -18;

    private static final Word[] WORDS = Word.values();

    private final Tape tape = new Tape();
    private Hall hall = new Hall();
    private Hall spareHall = new Hall();
    private final Reader reader = new Reader(tape, spareHall);
    private final Standing now = new Standing(hall);
    private final Log log = new Log();
    private final Standing imageOfNow = new Standing(hall);
    private final Log imageOfLog = new Log();
    private boolean imageKept;
    private int faultPlace = NONE;
    private final Packing packing = new Packing();
    private final Plans plans = new Plans();
    private final Scale scale = new Scale(hall);
    private final Trial trial = new Trial(hall);

    public PoundsOver() {
    }

    public int feed(int a, int b, int c, int d, int e) {
        if (tape.length > MOST_BYTES - BYTES_FED) {
            return NONE;
        }
        tape.append(a);
        tape.append(b);
        tape.append(c);
        tape.append(d);
        tape.append(e);
        return tape.length;
    }

    public int hall(int n) throws IllegalArgumentException {
        if (n < 0 || n > tape.length) {
            throw new IllegalArgumentException();
        }
        int found = reader.read(n, spareHall);
        tape.length = 0;
        if (found != 0) {
            faultPlace = tape.place;
            log.refuse(TEXTS_REFUSED);
            return found;
        }
        faultPlace = NONE;
        beginAnew();
        return 0;
    }

    private void beginAnew() {
        Hall told = spareHall;
        spareHall = hall;
        hall = told;
        now.begin(told);
        log.begin();
        plans.begin();
        imageKept = false;
    }

    public int fault() {
        return faultPlace;
    }

    public int count(int what) throws NoSuchElementException {
        switch (what) {
            case 0:
                return hall.peopleTold;
            case 1:
                return hall.casesTold;
            case 2:
                return hall.thingsTold;
            case 3:
                return hall.postsTold;
            case 4:
                return hall.tenths;
            case 5:
                return hall.fine;
            case 6:
                return now.openedCases;
            case 7:
                return log.actsKept;
            case 8:
                return log.seenKept;
            case 9:
                return tape.length;
            case 10:
            case 11:
            case 12:
                return log.status.at(what - 10);
            default:
                throw new NoSuchElementException();
        }
    }

    public int person(int person, int what) throws NoSuchElementException {
        needPerson(person);
        needWhat(what, 6);
        switch (what) {
            case 3:
                return now.heatOn(person);
            case 4:
                return now.sizesOn(person);
            case 5:
                return now.hasShirt(person, NONE) ? 1 : 0;
            default:
                return hall.people.at(person, what);
        }
    }

    public int box(int box, int what) throws NoSuchElementException {
        needCase(box);
        needWhat(what, 10);
        switch (what) {
            case 5:
                return now.weightIn(box);
            case 6:
                return now.sizesIn(box);
            case 7:
                return now.overIn(box);
            case 8:
                return now.feeOf(box);
            case 9:
                return now.thingsAt(box);
            default:
                return hall.cases.at(box, what);
        }
    }

    public int thing(int thing, int what) throws NoSuchElementException {
        needThing(thing);
        needWhat(what, 8);
        switch (what) {
            case 5:
                return now.placeOf(thing);
            case 7:
                return hall.priceOf(thing);
            default:
                return hall.things.at(thing, what);
        }
    }

    public boolean may(int thing, int place) throws NoSuchElementException {
        needThing(thing);
        return now.mayCome(thing, place);
    }

    public int shift(int thing, int place) throws NoSuchElementException {
        needThing(thing);
        if (!now.mayCome(thing, place)) {
            log.refuse(ACTS_REFUSED);
            return NONE;
        }
        int from = now.placeOf(thing);
        log.keepAct(thing, from, now.openedCases);
        now.bring(thing, place);
        return from;
    }

    public int undo() {
        if (log.actsKept == 0) {
            return NONE;
        }
        log.takeBackAct(now);
        return log.actsKept;
    }

    public int bill() {
        return now.total();
    }

    public int lawful() {
        return now.law();
    }

    public int two(int one, int other) throws NoSuchElementException, IllegalArgumentException {
        needCase(one);
        needCase(other);
        if (one == other) {
            throw new IllegalArgumentException();
        }
        return packing.fewestBetween(now, one, other);
    }

    public int opened() {
        return packing.cheapestSet(now);
    }

    public int cheap(int box) throws NoSuchElementException {
        needCase(box);
        return plans.leastFor(now, box);
    }

    public int fate(int thing) throws NoSuchElementException {
        needThing(thing);
        if (!plans.hasFateOf(thing)) {
            throw new NoSuchElementException();
        }
        return plans.fates.at(thing);
    }

    public long sure(int box, int what) throws NoSuchElementException {
        needCase(box);
        needWhat(what, 5);
        scale.take(now, box);
        switch (what) {
            case 0:
                return scale.least;
            case 1:
                return scale.most;
            case 2:
                return scale.known();
            default:
                scale.findChance();
                return what == 3 ? scale.upper : scale.lower;
        }
    }

    public int weigh(int box, int what) throws NoSuchElementException {
        needCase(box);
        needWhat(what, 3);
        scale.take(now, box);
        scale.findThingToWeigh();
        if (what == 0) {
            return scale.thingToWeigh;
        }
        return (int) (what == 1 ? scale.upper : scale.lower);
    }

    public int lost(int box) throws NoSuchElementException {
        needCase(box);
        return now.withoutShirtIfLost(box);
    }

    public int safe() {
        int bits = 0;
        for (int c = 0; c < hall.casesTold; c++) {
            if (now.withoutShirtIfLost(c) == 0) {
                bits |= 1 << c;
            }
        }
        return bits;
    }

    public int wear(int person, int pounds, boolean bits) throws NoSuchElementException, IllegalArgumentException {
        needPerson(person);
        if (pounds < 0 || pounds > MOST_POUNDS) {
            throw new IllegalArgumentException();
        }
        int coats = plans.coatsToWear(now, person, pounds);
        return coats == NONE || bits ? coats : hall.sumOf(coats, HEAT);
    }

    public int share() {
        return plans.leastShare(now);
    }

    public int carrier(int box) throws NoSuchElementException {
        needCase(box);
        if (!plans.carriersKept) {
            throw new NoSuchElementException();
        }
        return plans.carriers.at(box);
    }

    public int look(int box, int what) throws NoSuchElementException {
        needCase(box);
        needWhat(what, 2);
        int fee = now.feeOf(box);
        int mean = now.overIn(box) > 0 ? hall.tenths * (fee + hall.fine) : 0;
        if (what == 0) {
            return mean;
        }
        return mean < 10 * fee ? 1 : 0;
    }

    public int see(int box, int weight) throws NoSuchElementException {
        needCase(box);
        if (log.seenKept >= MOST_SEEN || weight < 0 || weight > MOST_WEIGHT_SEEN) {
            log.refuse(SEEN_REFUSED);
            return NONE;
        }
        log.keepSeen(box, weight);
        return log.seenKept;
    }

    public int forget() {
        if (log.seenKept == 0) {
            return NONE;
        }
        log.seenKept--;
        return log.seenKept;
    }

    public int fits(int what) throws NoSuchElementException {
        needWhat(what, 3);
        if (what == 2) {
            return log.agreesWith(now) ? 1 : 0;
        }
        trial.findFits(now, log);
        return what == 0 ? trial.fitsFound : trial.firstFit;
    }

    public int best(int what) throws NoSuchElementException {
        needWhat(what, 3);
        trial.findBest(now);
        if (what == 0) {
            return trial.bestThing;
        }
        return what == 1 ? trial.bestPlace : trial.bestTotal;
    }

    public int counter(int seed, int shifts, int what) throws NoSuchElementException, IllegalArgumentException {
        needWhat(what, 2);
        if (shifts < 0 || shifts > MOST_SHIFTS) {
            throw new IllegalArgumentException();
        }
        trial.runCounter(now, seed, shifts);
        return what == 0 ? trial.shiftsDone : trial.statesThatGo;
    }

    public void image() {
        imageOfNow.become(now);
        imageOfLog.become(log);
        imageKept = true;
    }

    public boolean restore() {
        if (!imageKept) {
            return false;
        }
        now.become(imageOfNow);
        log.become(imageOfLog);
        return true;
    }

    private void needPerson(int person) {
        if (person < 0 || person >= hall.peopleTold) {
            throw new NoSuchElementException();
        }
    }

    private void needCase(int box) {
        if (box < 0 || box >= hall.casesTold) {
            throw new NoSuchElementException();
        }
    }

    private void needThing(int thing) {
        if (thing < 0 || thing >= hall.thingsTold) {
            throw new NoSuchElementException();
        }
    }

    private static void needWhat(int what, int answers) {
        if (what < 0 || what >= answers) {
            throw new NoSuchElementException();
        }
    }

    /** Rows of numbers; outside of them it answers 0 and keeps nothing, so that no index can be wrong. */
    private static final class Table {
        private final int columns;
        private final int[] cells;

        Table(int rows, int columns) {
            this.columns = columns;
            this.cells = new int[Math.max(0, rows * columns)];
        }

        int at(int index) {
            return index >= 0 && index < cells.length ? cells[index] : 0;
        }

        int at(int row, int column) {
            int index = row * columns + column;
            return index >= 0 && index < cells.length ? cells[index] : 0;
        }

        void set(int index, int value) {
            if (index >= 0 && index < cells.length) {
                cells[index] = value;
            }
        }

        void set(int row, int column, int value) {
            int index = row * columns + column;
            if (index >= 0 && index < cells.length) {
                cells[index] = value;
            }
        }

        void fill(int value) {
            for (int i = 0; i < cells.length; i++) {
                cells[i] = value;
            }
        }

        void become(Table other) {
            for (int i = 0; i < cells.length; i++) {
                cells[i] = other.at(i);
            }
        }
    }

    /** The words that stand for something: the KIND of a line's THING, the number of a VALUE (NONE of others). */
    private enum Word {
        OTHER("", NONE, NONE),
        PERSON("person", NONE, NONE),
        CASE("case", NONE, NONE),
        BOARD("board", NONE, 4),
        THING("thing", 0, NONE),
        COAT("coat", 1, NONE),
        SHARP("sharp", 2, NONE),
        GLASS("glass", 3, NONE),
        FOOD("food", 4, NONE),
        SHIRT("shirt", 5, NONE),
        POST("post", NONE, NONE),
        LOOKS("looks", NONE, NONE),
        FEE("fee", NONE, NONE),
        OR("or", NONE, NONE),
        AND("and", NONE, NONE),
        NOT("not", NONE, NONE),
        OVER("over", NONE, 0),
        WEIGHT("weight", NONE, 1),
        LIMIT("limit", NONE, 2),
        THINGS("things", NONE, 3);

        final String letters;
        final int thingKind;
        final int valueNumber;

        Word(String letters, int thingKind, int valueNumber) {
            this.letters = letters;
            this.thingKind = thingKind;
            this.valueNumber = valueNumber;
        }
    }

    /** The bytes that were fed, and the token of them that is being read. */
    private static final class Tape {
        private final byte[] bytes = new byte[MOST_BYTES];
        int length;

        private int end;
        private int next;
        int place;
        int kind;
        int number;
        Word word = Word.OTHER;

        void append(int four) {
            for (int shift = 24; shift >= 0; shift -= 8) {
                if (length >= 0 && length < bytes.length) {
                    bytes[length] = (byte) (four >>> shift);
                    length++;
                }
            }
        }

        void begin(int n) {
            end = n;
            next = 0;
            advance();
        }

        private int byteAt(int i) {
            return i >= 0 && i < end && i < bytes.length ? bytes[i] & 255 : NONE;
        }

        /** Goes on to the next token: the longest row of letters or digits, or one byte. */
        void advance() {
            while (next < end && (byteAt(next) == ' ' || byteAt(next) == 10)) {
                next++;
            }
            place = next;
            word = Word.OTHER;
            int first = byteAt(place);
            if (first == NONE) {
                kind = TEXT_END;
                return;
            }
            boolean letter = isLetter(first);
            boolean digit = isDigit(first);
            next++;
            while (next < end && (letter && isLetter(byteAt(next)) || digit && isDigit(byteAt(next)))) {
                next++;
            }
            if (letter) {
                kind = WORD;
                word = findWord();
            } else if (digit) {
                kind = NUMBER;
                number = findNumber();
            } else {
                kind = isSign(first) ? first : NO_TOKEN;
            }
        }

        private static boolean isLetter(int sign) {
            return sign >= 'a' && sign <= 'z';
        }

        private static boolean isDigit(int sign) {
            return sign >= '0' && sign <= '9';
        }

        private static boolean isSign(int sign) {
            return sign == ';' || sign == '(' || sign == ')' || sign == '+' || sign == '-'
                || sign == '*' || sign == '/' || sign == '<' || sign == '=';
        }

        private Word findWord() {
            int letters = next - place;
            for (int i = 0; i < WORDS.length; i++) {
                String known = WORDS[i].letters;
                int same = 0;
                while (same < letters && same < known.length() && known.charAt(same) == byteAt(place + same)) {
                    same++;
                }
                if (same == letters && same == known.length()) {
                    return WORDS[i];
                }
            }
            return Word.OTHER;
        }

        private int findNumber() {
            if (next - place > MOST_DIGITS) {
                return TOO_MANY_DIGITS;
            }
            int value = 0;
            for (int i = place; i < next; i++) {
                value = value * 10 + byteAt(i) - '0';
            }
            return value;
        }
    }

    /** The rule for a FEE, its parts in the order in which they are reckoned. */
    private static final class Rule {
        private final Table code = new Table(MOST_BYTES, 1);
        private int codeLength;
        boolean told;

        private final Table values = new Table(5, 1);
        private final Table stack = new Table(MOST_PENDING, 1);
        private int height;

        void clear() {
            told = false;
            codeLength = 0;
        }

        void append(int part) {
            code.set(codeLength, part);
            codeLength++;
        }

        int feeFor(int weight, int limit, int things, int board) {
            int over = weight - limit;
            if (over <= 0) {
                return 0;
            }
            if (!told) {
                return FEE_A_POUND * over;
            }
            values.set(0, over);
            values.set(1, weight);
            values.set(2, limit);
            values.set(3, things);
            values.set(4, board);
            height = 0;
            for (int i = 0; i < codeLength; i++) {
                reckon(code.at(i));
            }
            return Math.max(0, Math.min(MOST_NUMBER, stack.at(0)));
        }

        private void reckon(int part) {
            if (part > DO_OR) {
                stack.set(height, part >= 0 ? part : values.at(-1 - part));
                height++;
            } else if (part == DO_NOT) {
                stack.set(height - 1, stack.at(height - 1) == 0 ? 1 : 0);
            } else {
                height--;
                stack.set(height - 1, joined(part, stack.at(height - 1), stack.at(height)));
            }
        }

        private static int joined(int part, int left, int right) {
            switch (part) {
                case DO_OR:
                    return left != 0 || right != 0 ? 1 : 0;
                case DO_AND:
                    return left != 0 && right != 0 ? 1 : 0;
                case DO_LESS:
                    return left < right ? 1 : 0;
                case DO_EQUAL:
                    return left == right ? 1 : 0;
                case DO_ADD:
                    return left + right;
                case DO_SUBTRACT:
                    return left - right;
                case DO_MULTIPLY:
                    return left * right;
                default:
                    return right == 0 ? 0 : left / right;
            }
        }
    }

    /** What a text tells; nothing in it changes while it stands. */
    private static final class Hall {
        final Table people = new Table(MOST_PEOPLE, 3);
        final Table cases = new Table(MOST_CASES, 5);
        final Table things = new Table(MOST_THINGS, 7);
        final Table posts = new Table(MOST_POSTS, 2);
        final Rule rule = new Rule();
        int peopleTold;
        int casesTold;
        int thingsTold;
        int postsTold;
        boolean looksTold;
        int tenths;
        int fine;

        void clear() {
            rule.clear();
            peopleTold = 0;
            casesTold = 0;
            thingsTold = 0;
            postsTold = 0;
            looksTold = false;
            tenths = 0;
            fine = 0;
        }

        int priceOf(int thing) {
            int weight = things.at(thing, WEIGHT);
            for (int i = 0; i < postsTold; i++) {
                if (weight <= posts.at(i, UP_TO)) {
                    return posts.at(i, PRICE);
                }
            }
            return NONE;
        }

        int sumOf(int bits, int column) {
            int sum = 0;
            for (int t = 0; t < thingsTold; t++) {
                if ((bits >> t & 1) != 0) {
                    sum += things.at(t, column);
                }
            }
            return sum;
        }

        int ofKind(int kind) {
            int bits = 0;
            for (int t = 0; t < thingsTold; t++) {
                if (things.at(t, KIND) == kind) {
                    bits |= 1 << t;
                }
            }
            return bits;
        }

        boolean hasKind(int bits, int kind) {
            return (bits & ofKind(kind)) != 0;
        }

        /** Whether a CASE may hold just these THINGS and GOES with them. */
        boolean goesWith(int c, int bits) {
            return sumOf(bits, WEIGHT) <= cases.at(c, LIMIT)
                && sumOf(bits, SIZE) <= cases.at(c, HOLDS)
                && (cases.at(c, BOARD) == 0 || (bits & ofKind(SHARP)) == 0);
        }
    }

    /** Reads a text into a HALL, up to its first FAULT, which is at the tape's token then. */
    private static final class Reader {
        private final Tape tape;
        private Hall hall;
        private int fault;

        Reader(Tape tape, Hall hall) {
            this.tape = tape;
            this.hall = hall;
        }

        int read(int n, Hall into) {
            hall = into;
            hall.clear();
            fault = 0;
            tape.begin(n);
            boolean good = true;
            for (int i = 0; i < MOST_BYTES && good && tape.kind != TEXT_END; i++) {
                good = readLine() && takeLineEnd();
            }
            return fault;
        }

        private boolean refuse(int kind) {
            fault = kind;
            return false;
        }

        private boolean readLine() {
            if (tape.word.thingKind != NONE) {
                return readThing(tape.word.thingKind);
            }
            if (tape.word == Word.PERSON) {
                return readPerson();
            }
            if (tape.word == Word.CASE) {
                return readCase();
            }
            if (tape.word == Word.POST) {
                return readPost();
            }
            if (tape.word == Word.LOOKS) {
                return readLooks();
            }
            return tape.word == Word.FEE ? readFee() : refuse(FAULT_TOKEN);
        }

        private boolean takeLineEnd() {
            if (tape.kind != ';') {
                return refuse(FAULT_TOKEN);
            }
            tape.advance();
            return true;
        }

        /** Whether a NUMBER from least to most is there. */
        private boolean isNumber(int least, int most) {
            if (tape.kind != NUMBER) {
                return refuse(FAULT_TOKEN);
            }
            return tape.number >= least && tape.number <= most || refuse(FAULT_TOO_MUCH);
        }

        private boolean readNumber(Table into, int row, int column, int least, int most) {
            if (!isNumber(least, most)) {
                return false;
            }
            into.set(row, column, tape.number);
            tape.advance();
            return true;
        }

        private boolean takeNumber(Table into, int row, int column) {
            into.set(row, column, tape.number);
            tape.advance();
            return true;
        }

        private boolean readPerson() {
            int row = hall.peopleTold;
            if (row >= MOST_PEOPLE) {
                return refuse(FAULT_TOO_MUCH);
            }
            tape.advance();
            boolean good = readNumber(hall.people, row, OWN, 1, 300)
                && readNumber(hall.people, row, POCKETS, 0, 9)
                && readNumber(hall.people, row, BEARS, 0, 30);
            hall.peopleTold++;
            return good;
        }

        private boolean readCase() {
            int row = hall.casesTold;
            if (row >= MOST_CASES) {
                return refuse(FAULT_TOO_MUCH);
            }
            tape.advance();
            boolean good = isTold(hall.peopleTold)
                && takeNumber(hall.cases, row, OWNER)
                && readNumber(hall.cases, row, LIMIT, 0, 200)
                && readNumber(hall.cases, row, HOLDS, 0, 60)
                && readNumber(hall.cases, row, COST, 0, 99);
            boolean board = good && tape.word == Word.BOARD;
            hall.cases.set(row, BOARD, board ? 1 : 0);
            if (board) {
                tape.advance();
            }
            hall.casesTold++;
            return good;
        }

        /** Whether the NUMBER of a PERSON or CASE that was told ahead is there. */
        private boolean isTold(int told) {
            return isNumber(0, MOST_NUMBER) && (tape.number < told || refuse(FAULT_NOT_TOLD));
        }

        private boolean readThing(int kind) {
            int row = hall.thingsTold;
            if (row >= MOST_THINGS) {
                return refuse(FAULT_TOO_MUCH);
            }
            tape.advance();
            hall.things.set(row, KIND, kind);
            hall.things.set(row, HEAT, 0);
            boolean good = readNumber(hall.things, row, WEIGHT, 0, 60)
                && readNumber(hall.things, row, UNSURE, 0, Math.min(9, hall.things.at(row, WEIGHT)))
                && readNumber(hall.things, row, SIZE, 0, 20)
                && readNumber(hall.things, row, VALUE, 0, 999)
                && isTold(hall.casesTold)
                && isRoomFor(row, tape.number)
                && takeNumber(hall.things, row, FIRST_CASE)
                && (kind != COAT || readNumber(hall.things, row, HEAT, 1, 9));
            hall.thingsTold++;
            return good;
        }

        private boolean isRoomFor(int thing, int c) {
            boolean sharpOnBoard = hall.things.at(thing, KIND) == SHARP && hall.cases.at(c, BOARD) != 0;
            int sizes = hall.things.at(thing, SIZE);
            for (int t = 0; t < thing; t++) {
                if (hall.things.at(t, FIRST_CASE) == c) {
                    sizes += hall.things.at(t, SIZE);
                }
            }
            return !sharpOnBoard && sizes <= hall.cases.at(c, HOLDS) || refuse(FAULT_CASE);
        }

        private boolean readPost() {
            int row = hall.postsTold;
            if (row >= MOST_POSTS) {
                return refuse(FAULT_TOO_MUCH);
            }
            tape.advance();
            boolean good = isNumber(1, 99)
                && isMoreThanAhead(row)
                && takeNumber(hall.posts, row, UP_TO)
                && readNumber(hall.posts, row, PRICE, 0, 999);
            hall.postsTold++;
            return good;
        }

        private boolean isMoreThanAhead(int row) {
            return row == 0 || tape.number > hall.posts.at(row - 1, UP_TO) || refuse(FAULT_POST);
        }

        private boolean readLooks() {
            if (hall.looksTold) {
                return refuse(FAULT_SECOND);
            }
            hall.looksTold = true;
            tape.advance();
            if (!isNumber(0, 10)) {
                return false;
            }
            hall.tenths = tape.number;
            tape.advance();
            if (!isNumber(0, 999)) {
                return false;
            }
            hall.fine = tape.number;
            tape.advance();
            return true;
        }

        private boolean readFee() {
            if (hall.rule.told) {
                return refuse(FAULT_SECOND);
            }
            hall.rule.told = true;
            tape.advance();
            return readExpr(0);
        }

        private boolean readExpr(int depth) {
            if (depth > MOST_DEPTH) {
                boolean begins = tape.kind == NUMBER || tape.kind == WORD || tape.kind == '(';
                return refuse(begins ? FAULT_TOO_MUCH : FAULT_TOKEN);
            }
            boolean good = readAnd(depth);
            for (int i = 0; i < MOST_BYTES && good && tape.word == Word.OR; i++) {
                tape.advance();
                good = readAnd(depth) && put(DO_OR);
            }
            return good;
        }

        private boolean put(int part) {
            hall.rule.append(part);
            return true;
        }

        private boolean readAnd(int depth) {
            boolean good = readNot(depth);
            for (int i = 0; i < MOST_BYTES && good && tape.word == Word.AND; i++) {
                tape.advance();
                good = readNot(depth) && put(DO_AND);
            }
            return good;
        }

        private boolean readNot(int depth) {
            int nots = 0;
            while (nots < MOST_NOTS && tape.word == Word.NOT) {
                nots++;
                tape.advance();
            }
            if (tape.word == Word.NOT) {
                return refuse(FAULT_TOO_MUCH);
            }
            boolean good = readTest(depth);
            for (int i = 0; i < nots; i++) {
                put(DO_NOT);
            }
            return good;
        }

        private boolean readTest(int depth) {
            boolean good = readSum(depth);
            int sign = tape.kind;
            if (good && (sign == '<' || sign == '=')) {
                tape.advance();
                good = readSum(depth) && put(sign == '<' ? DO_LESS : DO_EQUAL);
            }
            return good;
        }

        private boolean readSum(int depth) {
            boolean good = readProduct(depth);
            for (int i = 0; i < MOST_BYTES && good && (tape.kind == '+' || tape.kind == '-'); i++) {
                int part = tape.kind == '+' ? DO_ADD : DO_SUBTRACT;
                tape.advance();
                good = readProduct(depth) && put(part);
            }
            return good;
        }

        private boolean readProduct(int depth) {
            boolean good = readPart(depth);
            for (int i = 0; i < MOST_BYTES && good && (tape.kind == '*' || tape.kind == '/'); i++) {
                int part = tape.kind == '*' ? DO_MULTIPLY : DO_DIVIDE;
                tape.advance();
                good = readPart(depth) && put(part);
            }
            return good;
        }

        private boolean readPart(int depth) {
            switch (tape.kind) {
                case NUMBER:
                    return tape.number <= MOST_NUMBER ? take(tape.number) : refuse(FAULT_TOO_MUCH);
                case WORD:
                    int value = tape.word.valueNumber;
                    return value != NONE ? take(-1 - value) : refuse(FAULT_NOT_TOLD);
                case '(':
                    tape.advance();
                    return readExpr(depth + 1) && takeClosing();
                default:
                    return refuse(FAULT_TOKEN);
            }
        }

        private boolean take(int part) {
            tape.advance();
            return put(part);
        }

        private boolean takeClosing() {
            if (tape.kind != ')') {
                return refuse(FAULT_TOKEN);
            }
            tape.advance();
            return true;
        }
    }

    /** Where THINGS are and what was opened, and what follows from that. */
    private static final class Standing {
        private Hall hall;
        private final Table places = new Table(MOST_THINGS, 1);
        int openedCases;

        Standing(Hall hall) {
            this.hall = hall;
        }

        void begin(Hall told) {
            hall = told;
            openedCases = 0;
            for (int t = 0; t < told.thingsTold; t++) {
                places.set(t, told.things.at(t, FIRST_CASE));
            }
        }

        void become(Standing other) {
            hall = other.hall;
            places.become(other.places);
            openedCases = other.openedCases;
        }

        int placeOf(int thing) {
            return places.at(thing);
        }

        int thingsAt(int place) {
            int bits = 0;
            for (int t = 0; t < hall.thingsTold; t++) {
                if (places.at(t) == place) {
                    bits |= 1 << t;
                }
            }
            return bits;
        }

        int weightIn(int c) {
            return hall.sumOf(thingsAt(c), WEIGHT);
        }

        int sizesIn(int c) {
            return hall.sumOf(thingsAt(c), SIZE);
        }

        int overIn(int c) {
            return Math.max(0, weightIn(c) - hall.cases.at(c, LIMIT));
        }

        int feeOf(int c) {
            return feeWith(c, thingsAt(c));
        }

        /** The FEE of a CASE if just these THINGS are in it. */
        int feeWith(int c, int bits) {
            return hall.rule.feeFor(hall.sumOf(bits, WEIGHT), hall.cases.at(c, LIMIT),
                Integer.bitCount(bits), hall.cases.at(c, BOARD));
        }

        /** The least CASE that is OVER; NONE: everything GOES. */
        int leastOver() {
            for (int c = 0; c < hall.casesTold; c++) {
                if (overIn(c) > 0) {
                    return c;
                }
            }
            return NONE;
        }

        int heatOn(int person) {
            return hall.sumOf(thingsAt(ON_PEOPLE + person), HEAT);
        }

        int sizesOn(int person) {
            return hall.sumOf(thingsAt(ON_PEOPLE + person) & ~hall.ofKind(COAT), SIZE);
        }

        /** Whether a PERSON has a shirt, without the CASE that is lost (NONE: none is). */
        boolean hasShirt(int person, int lostCase) {
            int bits = thingsAt(ON_PEOPLE + person);
            for (int c = 0; c < hall.casesTold; c++) {
                if (c != lostCase && hall.cases.at(c, OWNER) == person) {
                    bits |= thingsAt(c);
                }
            }
            return hall.hasKind(bits, SHIRT);
        }

        int withoutShirtIfLost(int c) {
            int bits = 0;
            for (int p = 0; p < hall.peopleTold; p++) {
                if (hasShirt(p, NONE) && !hasShirt(p, c)) {
                    bits |= 1 << p;
                }
            }
            return bits;
        }

        boolean mayCome(int thing, int place) {
            int from = places.at(thing);
            if (from == place || from >= THROWN) {
                return false;
            }
            switch (place) {
                case THROWN:
                    return true;
                case POSTED:
                    return hall.priceOf(thing) != NONE;
                case EATEN:
                    return hall.things.at(thing, KIND) == FOOD;
                default:
                    return mayComeInto(thing, place) || mayComeOn(thing, place - ON_PEOPLE);
            }
        }

        private boolean mayComeInto(int thing, int c) {
            if (c < 0 || c >= hall.casesTold) {
                return false;
            }
            boolean sharpOnBoard = hall.things.at(thing, KIND) == SHARP && hall.cases.at(c, BOARD) != 0;
            int sizes = hall.sumOf(thingsAt(c), SIZE) + hall.things.at(thing, SIZE);
            return !sharpOnBoard && sizes <= hall.cases.at(c, HOLDS);
        }

        private boolean mayComeOn(int thing, int person) {
            if (person < 0 || person >= hall.peopleTold) {
                return false;
            }
            int there = thingsAt(ON_PEOPLE + person);
            if (hall.things.at(thing, KIND) == COAT) {
                return hall.sumOf(there, HEAT) + hall.things.at(thing, HEAT) <= hall.people.at(person, BEARS);
            }
            int size = hall.things.at(thing, SIZE);
            int sizes = hall.sumOf(there & ~hall.ofKind(COAT), SIZE) + size;
            return size <= MOST_IN_POCKET && sizes <= hall.people.at(person, POCKETS);
        }

        void bring(int thing, int place) {
            openIfCase(places.at(thing));
            openIfCase(place);
            places.set(thing, place);
        }

        private void openIfCase(int place) {
            if (place >= 0 && place < hall.casesTold) {
                openedCases |= 1 << place;
            }
        }

        void takeBack(int thing, int place, int openedThen) {
            places.set(thing, place);
            openedCases = openedThen;
        }

        int total() {
            int sum = 0;
            for (int c = 0; c < hall.casesTold; c++) {
                sum += feeWith(c, thingsAt(c));
                if ((openedCases >> c & 1) != 0) {
                    sum += hall.cases.at(c, COST);
                }
            }
            for (int t = 0; t < hall.thingsTold; t++) {
                if (places.at(t) == POSTED) {
                    sum += hall.priceOf(t);
                } else if (places.at(t) == THROWN) {
                    sum += hall.things.at(t, VALUE);
                }
            }
            return sum;
        }

        int law() {
            int over = leastOver();
            if (over != NONE) {
                return 20 + over;
            }
            for (int c = 0; c < hall.casesTold; c++) {
                int bits = thingsAt(c);
                if (hall.hasKind(bits, GLASS) && !hall.hasKind(bits, COAT) && !hall.hasKind(bits, SHIRT)) {
                    return 10 + c;
                }
            }
            return 0;
        }
    }

    /** The ACTS that are kept, what was SEEN, and the STATUS. */
    private static final class Log {
        private final Table acts = new Table(MOST_ACTS, 3);
        int actsKept;
        private final Table seen = new Table(MOST_SEEN, 2);
        int seenKept;
        final Table status = new Table(3, 1);

        void begin() {
            actsKept = 0;
            seenKept = 0;
        }

        void become(Log other) {
            acts.become(other.acts);
            actsKept = other.actsKept;
            seen.become(other.seen);
            seenKept = other.seenKept;
            status.become(other.status);
        }

        void refuse(int kind) {
            status.set(kind, status.at(kind) + 1);
        }

        void keepAct(int thing, int from, int openedAhead) {
            if (actsKept == MOST_ACTS) {
                forgetFirstAct();
            }
            acts.set(actsKept, 0, thing);
            acts.set(actsKept, 1, from);
            acts.set(actsKept, 2, openedAhead);
            actsKept++;
        }

        private void forgetFirstAct() {
            for (int i = 3; i < MOST_ACTS * 3; i++) {
                acts.set(i - 3, acts.at(i));
            }
            actsKept--;
        }

        void takeBackAct(Standing standing) {
            actsKept--;
            standing.takeBack(acts.at(actsKept, 0), acts.at(actsKept, 1), acts.at(actsKept, 2));
        }

        void keepSeen(int c, int weight) {
            seen.set(seenKept, 0, c);
            seen.set(seenKept, 1, weight);
            seenKept++;
        }

        boolean agreesWith(Standing standing) {
            for (int i = 0; i < seenKept; i++) {
                if (standing.weightIn(seen.at(i, 0)) != seen.at(i, 1)) {
                    return false;
                }
            }
            return true;
        }
    }

    /** THINGS put anew into some CASES: the fewest changed over, the cheapest CASES to open. */
    private static final class Packing {
        private final Table items = new Table(MOST_PACKED, 1);
        private final Table reached = new Table(1 << MOST_PACKED, 1);
        private final Table taken = new Table(1 << MOST_PACKED, 1);

        int fewestBetween(Standing standing, int one, int other) {
            int inOne = standing.thingsAt(one);
            int inOther = standing.thingsAt(other);
            int best = NONE;
            for (int bits = 0; bits < MOST_SETS; bits++) {
                boolean ofThese = (bits & ~(inOne | inOther)) == 0;
                boolean better = best == NONE || Integer.bitCount(bits) < Integer.bitCount(best);
                // What changes over leaves the one CASE's bits and comes into the other's.
                if (ofThese && better && standing.hall.goesWith(one, inOne ^ bits)
                    && standing.hall.goesWith(other, inOther ^ bits)) {
                    best = bits;
                }
            }
            return best;
        }

        int cheapestSet(Standing standing) {
            int best = NONE;
            int bestRank = 0;
            for (int set = 0; set < 1 << standing.hall.casesTold; set++) {
                int rank = costOf(standing, set) * (MOST_CASES + 1) + Integer.bitCount(set);
                if (best != NONE && rank >= bestRank) {
                    continue;
                }
                int inside = thingsIn(standing, set);
                if (Integer.bitCount(inside) > MOST_PACKED) {
                    return SPENT;
                }
                if (othersGo(standing, set) && canPack(standing, set, inside)) {
                    best = set;
                    bestRank = rank;
                }
            }
            return best;
        }

        private int costOf(Standing standing, int set) {
            int cost = 0;
            int toOpen = set & ~standing.openedCases;
            for (int c = 0; c < standing.hall.casesTold; c++) {
                if ((toOpen >> c & 1) != 0) {
                    cost += standing.hall.cases.at(c, COST);
                }
            }
            return cost;
        }

        private int thingsIn(Standing standing, int set) {
            int bits = 0;
            for (int c = 0; c < standing.hall.casesTold; c++) {
                if ((set >> c & 1) != 0) {
                    bits |= standing.thingsAt(c);
                }
            }
            return bits;
        }

        private boolean othersGo(Standing standing, int set) {
            for (int c = 0; c < standing.hall.casesTold; c++) {
                if ((set >> c & 1) == 0 && standing.overIn(c) > 0) {
                    return false;
                }
            }
            return true;
        }

        /** Whether the THINGS inside go into the CASES of a set and, the coats, on their owners. */
        private boolean canPack(Standing standing, int set, int inside) {
            int all = (1 << listItems(inside)) - 1;
            reached.fill(0);
            reached.set(0, 1);
            int owners = 0;
            for (int c = 0; c < standing.hall.casesTold; c++) {
                if ((set >> c & 1) != 0) {
                    owners |= 1 << standing.hall.cases.at(c, OWNER);
                    takeIntoCase(standing.hall, c, all);
                    widen(all);
                }
            }
            for (int p = 0; p < standing.hall.peopleTold; p++) {
                if ((owners >> p & 1) != 0) {
                    takeOnPerson(standing, p, all);
                    widen(all);
                }
            }
            return reached.at(all) != 0;
        }

        private int listItems(int inside) {
            int n = 0;
            for (int t = 0; t < MOST_THINGS; t++) {
                if ((inside >> t & 1) != 0) {
                    items.set(n, t);
                    n++;
                }
            }
            return n;
        }

        private int thingsOf(int chosen) {
            int bits = 0;
            for (int i = 0; i < MOST_PACKED; i++) {
                if ((chosen >> i & 1) != 0) {
                    bits |= 1 << items.at(i);
                }
            }
            return bits;
        }

        private void takeIntoCase(Hall hall, int c, int all) {
            for (int chosen = 0; chosen <= all; chosen++) {
                taken.set(chosen, hall.goesWith(c, thingsOf(chosen)) ? 1 : 0);
            }
        }

        private void takeOnPerson(Standing standing, int person, int all) {
            int left = standing.hall.people.at(person, BEARS) - standing.heatOn(person);
            int coats = standing.hall.ofKind(COAT);
            for (int chosen = 0; chosen <= all; chosen++) {
                int bits = thingsOf(chosen);
                boolean wears = (bits & ~coats) == 0 && standing.hall.sumOf(bits, HEAT) <= left;
                taken.set(chosen, wears ? 1 : 0);
            }
        }

        /** Downwards, so that what is looked up below is still as it was without this place. */
        private void widen(int all) {
            for (int whole = all; whole > 0; whole--) {
                // The bits of the whole, counted down: each part is less than the one ahead.
                for (int part = whole; part > 0 && reached.at(whole) == 0; part = (part - 1) & whole) {
                    if (taken.at(part) != 0 && reached.at(whole ^ part) != 0) {
                        reached.set(whole, 1);
                    }
                }
            }
        }
    }

    /** What to pay for, leave and post of one CASE, which coats to wear, who carries what; two rows are kept. */
    private static final class Plans {
        final Table fates = new Table(MOST_THINGS, 1);
        private int thingsOfFates;
        boolean fatesKept;
        private final Table losses = new Table(MOST_THINGS, 1);
        private final Table waysOut = new Table(MOST_THINGS, 1);

        final Table carriers = new Table(MOST_CASES, 1);
        boolean carriersKept;
        private final Table row = new Table(MOST_CASES, 1);
        private final Table weights = new Table(MOST_CASES, 1);

        void begin() {
            fatesKept = false;
            carriersKept = false;
        }

        boolean hasFateOf(int thing) {
            return fatesKept && (thingsOfFates >> thing & 1) != 0;
        }

        int leastFor(Standing standing, int c) {
            findLosses(standing.hall);
            thingsOfFates = standing.thingsAt(c);
            fatesKept = true;
            int bestGone = 0;
            int best = standing.feeOf(c);
            for (int gone = 1; gone < MOST_SETS; gone++) {
                if ((gone & ~thingsOfFates) != 0 || lossOf(gone) > best) {
                    continue;
                }
                int sum = lossOf(gone) + standing.feeWith(c, thingsOfFates & ~gone);
                if (sum < best || sum == best && rowOf(gone) < rowOf(bestGone)) {
                    best = sum;
                    bestGone = gone;
                }
            }
            keepRow(bestGone);
            return best;
        }

        private void findLosses(Hall hall) {
            for (int t = 0; t < hall.thingsTold; t++) {
                int value = hall.things.at(t, VALUE);
                int price = hall.priceOf(t);
                boolean post = price != NONE && price < value;
                losses.set(t, post ? price : value);
                waysOut.set(t, post ? IS_POSTED : IS_THROWN);
            }
        }

        private int lossOf(int gone) {
            int sum = 0;
            for (int t = 0; t < MOST_THINGS; t++) {
                sum += (gone >> t & 1) != 0 ? losses.at(t) : 0;
            }
            return sum;
        }

        private int fateWith(int gone, int thing) {
            return (gone >> thing & 1) != 0 ? waysOut.at(thing) : STAYS;
        }

        /** The row as one number, the first THING's fate in its highest digit. */
        private int rowOf(int gone) {
            int row = 0;
            for (int t = 0; t < MOST_THINGS; t++) {
                row = row * 3 + fateWith(gone, t);
            }
            return row;
        }

        private void keepRow(int gone) {
            for (int t = 0; t < MOST_THINGS; t++) {
                fates.set(t, fateWith(gone, t));
            }
        }

        int coatsToWear(Standing standing, int person, int pounds) {
            Hall hall = standing.hall;
            int coats = coatsOf(standing, person);
            int bestHeat = hall.people.at(person, BEARS) - standing.heatOn(person) + 1;
            int best = NONE;
            for (int bits = 0; bits < MOST_SETS; bits++) {
                if ((bits & ~coats) == 0 && hall.sumOf(bits, HEAT) < bestHeat && hall.sumOf(bits, WEIGHT) >= pounds) {
                    best = bits;
                    bestHeat = hall.sumOf(bits, HEAT);
                }
            }
            return best;
        }

        private int coatsOf(Standing standing, int person) {
            int bits = 0;
            for (int c = 0; c < standing.hall.casesTold; c++) {
                if (standing.hall.cases.at(c, OWNER) == person) {
                    bits |= standing.thingsAt(c);
                }
            }
            return bits & standing.hall.ofKind(COAT);
        }

        int leastShare(Standing standing) {
            Hall hall = standing.hall;
            if (hall.peopleTold == 0) {
                return NONE;
            }
            int rows = 1;
            for (int c = 0; c < hall.casesTold; c++) {
                rows *= hall.peopleTold;
                weights.set(c, standing.weightIn(c));
            }
            int best = NONE;
            row.fill(0);
            for (int i = 0; i < rows; i++) {
                int greatest = greatestShare(hall);
                if (best == NONE || greatest < best) {
                    best = greatest;
                    carriers.become(row);
                }
                goToNextRow(hall);
            }
            carriersKept = true;
            return best;
        }

        private void goToNextRow(Hall hall) {
            boolean carry = true;
            for (int c = hall.casesTold - 1; c >= 0 && carry; c--) {
                int next = row.at(c) + 1;
                carry = next == hall.peopleTold;
                row.set(c, carry ? 0 : next);
            }
        }

        private int greatestShare(Hall hall) {
            int greatest = 0;
            for (int p = 0; p < hall.peopleTold; p++) {
                int load = 0;
                for (int c = 0; c < hall.casesTold; c++) {
                    load += row.at(c) == p ? weights.at(c) : 0;
                }
                int own = hall.people.at(p, OWN);
                greatest = Math.max(greatest, own > 0 ? load * 1000 / own : 0);
            }
            return greatest;
        }
    }

    /** What one CASE may weigh, as its THINGS aren't sure. */
    private static final class Scale {
        private static final int KNOWN_NOT = 0;
        private static final int KNOWN_GOES = 1;
        private static final int NOT_KNOWN = 2;

        private final long[] ways = new long[MOST_THINGS * 18 + 1];
        private Hall hall;
        private int things;
        private int limit;
        int least;
        int most;
        int thingToWeigh;
        long upper;
        long lower;

        Scale(Hall hall) {
            this.hall = hall;
        }

        void take(Standing standing, int c) {
            hall = standing.hall;
            things = standing.thingsAt(c);
            limit = hall.cases.at(c, LIMIT);
            int weight = hall.sumOf(things, WEIGHT);
            int unsure = hall.sumOf(things, UNSURE);
            least = weight - unsure;
            most = weight + unsure;
        }

        int known() {
            if (most <= limit) {
                return KNOWN_GOES;
            }
            return least > limit ? KNOWN_NOT : NOT_KNOWN;
        }

        void findChance() {
            countWays();
            upper = 0;
            lower = 0;
            for (int i = 0; i < ways.length; i++) {
                lower += ways[i];
                upper += least + i <= limit ? ways[i] : 0;
            }
            reduce();
        }

        /** In how many ways the THINGS weigh the least and i pounds more. */
        private void countWays() {
            for (int i = 0; i < ways.length; i++) {
                ways[i] = i == 0 ? 1 : 0;
            }
            for (int t = 0; t < hall.thingsTold; t++) {
                if ((things >> t & 1) != 0) {
                    addUnsure(2 * hall.things.at(t, UNSURE));
                }
            }
        }

        /** Downwards, so that what is added up is still as it was without this THING. */
        private void addUnsure(int width) {
            for (int i = ways.length - 1; i >= 0; i--) {
                long sum = 0;
                for (int j = Math.max(0, i - width); j <= i; j++) {
                    sum += ways[j];
                }
                ways[i] = sum;
            }
        }

        private void reduce() {
            long a = upper;
            long b = lower;
            // Euclid's steps for longs stay under a hundred.
            for (int i = 0; i < 200 && b != 0; i++) {
                long rest = a % b;
                a = b;
                b = rest;
            }
            if (a > 1) {
                upper /= a;
                lower /= a;
            }
        }

        void findThingToWeigh() {
            thingToWeigh = NONE;
            upper = 0;
            lower = 1;
            if (known() != NOT_KNOWN) {
                return;
            }
            for (int t = 0; t < hall.thingsTold; t++) {
                long telling = (things >> t & 1) != 0 ? tellingWeights(t) : NONE;
                long of = 2 * hall.things.at(t, UNSURE) + 1;
                if (telling >= 0 && (thingToWeigh == NONE || telling * lower > upper * of)) {
                    thingToWeigh = t;
                    upper = telling;
                    lower = of;
                }
            }
            reduce();
        }

        /** With how many of its weights a THING makes it known whether the CASE GOES. */
        private int tellingWeights(int thing) {
            int weight = hall.things.at(thing, WEIGHT);
            int unsure = hall.things.at(thing, UNSURE);
            int telling = 0;
            for (int w = weight - unsure; w <= weight + unsure; w++) {
                int leastThen = least - (weight - unsure) + w;
                int mostThen = most - (weight + unsure) + w;
                telling += leastThen > limit || mostThen <= limit ? 1 : 0;
            }
            return telling;
        }
    }

    /** SHIFTS that are only tried: which fit what is SEEN, which is best, a COUNTER by a seed. */
    private static final class Trial {
        private final Standing tried;
        private int seed;
        int fitsFound;
        int firstFit;
        int bestThing;
        int bestPlace;
        int bestTotal;
        int shiftsDone;
        int statesThatGo;

        Trial(Hall hall) {
            tried = new Standing(hall);
        }

        void findFits(Standing standing, Log log) {
            fitsFound = 0;
            firstFit = NONE;
            for (int t = 0; t < standing.hall.thingsTold; t++) {
                boolean inCase = standing.placeOf(t) < standing.hall.casesTold;
                for (int c = 0; c < standing.hall.casesTold && inCase; c++) {
                    if (tries(standing, t, c) && log.agreesWith(tried)) {
                        firstFit = fitsFound == 0 ? 100 * t + c : firstFit;
                        fitsFound++;
                    }
                }
            }
        }

        private boolean tries(Standing standing, int thing, int place) {
            if (!standing.mayCome(thing, place)) {
                return false;
            }
            tried.become(standing);
            tried.bring(thing, place);
            return true;
        }

        void findBest(Standing standing) {
            bestThing = NONE;
            bestPlace = NONE;
            bestTotal = NONE;
            int least = standing.total();
            for (int t = 0; t < standing.hall.thingsTold; t++) {
                for (int place = 0; place < PLACES; place++) {
                    int total = tries(standing, t, place) ? tried.total() : least;
                    if (total < least) {
                        least = total;
                        bestThing = t;
                        bestPlace = place;
                        bestTotal = total;
                    }
                }
            }
        }

        void runCounter(Standing standing, int firstSeed, int shifts) {
            tried.become(standing);
            seed = firstSeed;
            shiftsDone = 0;
            statesThatGo = 0;
            int things = standing.hall.thingsTold;
            int cases = standing.hall.casesTold;
            for (int i = 0; i < shifts && things > 0 && cases > 0; i++) {
                int thing = draw(things);
                int c = draw(cases);
                if (tried.placeOf(thing) < cases && tried.mayCome(thing, c)) {
                    tried.bring(thing, c);
                    shiftsDone++;
                }
                statesThatGo += tried.leastOver() == NONE ? 1 : 0;
            }
        }

        private int draw(int n) {
            seed = seed * 1103515245 + 12345;
            return n > 0 ? (seed >>> 16 & 0x7fff) % n : 0;
        }
    }
}
