import java.util.Arrays;

/**
 * A pension house: facts of members, schemes as texts of rules, cases, trials, awards and runs, as
 * ../shared/DOC.md says. Its words (VALUE, FACT, PART ..) are used here as there.
 */
public final class PensionHouse {
    public static final int NONE = -1, UNKNOWN = -2, OUTSIDE = -3, STATE = -4, ROOM = -5;

    private static final int LAST_DAY = 389, LAST_MONTH = 12, DAYS_A_MONTH = 30;
    private static final int MEMBERS = 10, SCHEMES = 4, EDITIONS = 8;
    private static final int AWARDS = 6, PAYMENTS = 200;
    private static final int FAULTY = -10;

    /** The NAME "due", packed as Tape packs NAMES. */
    private static final long DUE = 0x647565L;

    /** The columns of a payment, as payment() numbers them; behind them what each DEDUCTION got. */
    private static final int PAID_AWARD = 0, PAID_MONTH = 1, PAID_DUE = 2, PAID_BEHIND = 3;
    private static final int PAID_GROSS = 4, PAID_NET = 5, CAME_BACK = 6, WAS_UNCLEAR = 7;
    private static final int TAKEN = 8, COLUMNS = TAKEN + Award.DEDUCTIONS;

    private final Register register;
    private final Value desk;
    private final Parser parser;
    private final Tape tape;
    private final Text[] editions;
    private final Worker worker;
    /** The latest figure(), kept apart from all other CASES, which it must outlive. */
    private final Case shown;
    private final Case scratch;
    private final Case rival;
    private final Award[] awards;
    private int awardCount;
    private final long[][] payments;
    private int paymentCount;
    private int now;
    private int percent;
    private int runMonth;
    private final int[] runAwards;
    private int runSize;
    private int runPaid;

    public PensionHouse() {
        Register people = new Register();
        register = people;
        desk = new Value();
        parser = new Parser();
        tape = parser.tape;
        editions = new Text[SCHEMES * EDITIONS];
        for (int i = 0; i < editions.length; i++) {
            editions[i] = new Text();
        }
        worker = new Worker(people);
        shown = new Case();
        scratch = new Case();
        rival = new Case();
        awards = new Award[AWARDS];
        for (int i = 0; i < awards.length; i++) {
            awards[i] = new Award();
        }
        payments = new long[PAYMENTS][COLUMNS];
        percent = 50;
        runMonth = NONE;
        runAwards = new int[AWARDS];
    }

    // ---- tape, days

    public int feed(long w, int n) {
        if (n < 1 || n > 8) {
            return OUTSIDE;
        }
        if (tape.size + n > Tape.MOST) {
            return ROOM;
        }
        for (int i = n - 1; i >= 0; i--) {
            tape.add((byte) (w >>> (8 * i)));
        }
        return tape.size;
    }

    public int cut(int n) {
        if (n < 0 || n > tape.size) {
            return OUTSIDE;
        }
        int gone = tape.size - n;
        tape.size = n;
        return gone;
    }

    public int clock(int day) {
        if (!isDay(day) || day < now) {
            return OUTSIDE;
        }
        now = day;
        return 1;
    }

    // ---- persons, THE DESK

    public int person(boolean child, int birth) {
        if (birth < Register.EARLIEST_BIRTH || birth > LAST_DAY) {
            return OUTSIDE;
        }
        return register.addPerson(child, birth);
    }

    public int desk(int sort, int n) {
        if (sort < Value.WHOLE || sort > Value.SPOUSES) {
            return OUTSIDE;
        }
        int most = sort >= Value.INTS ? Value.ITEMS : 0;
        if (n < 0 || n > most) {
            return OUTSIDE;
        }
        if (sort >= Value.INTS) {
            desk.setRow(sort, n);
        } else {
            desk.setNumber(sort, 0);
        }
        return n;
    }

    public int write(int i, long bits) {
        if (i == NONE ? !desk.isNumber() : !desk.isRowOfNumbers()) {
            return STATE;
        }
        if (i != NONE && !desk.hasItem(i)) {
            return OUTSIDE;
        }
        desk.setBits(i == NONE ? 0 : i, bits);
        return 1;
    }

    public int seat(int i, int person) {
        if (person != NONE && !register.hasPerson(person)) {
            return UNKNOWN;
        }
        if (!desk.isKin()) {
            return STATE;
        }
        if (!desk.hasItem(i)) {
            return OUTSIDE;
        }
        if (!register.belongs(desk.sort, person)) {
            return STATE;
        }
        desk.setBits(i, person);
        return 1;
    }

    public int sort() {
        return desk.sort;
    }

    public int length() {
        return desk.size;
    }

    public long read(int i) {
        if (i == NONE) {
            return desk.isRow() ? 0 : desk.bits[0];
        }
        return desk.hasItem(i) ? desk.bits[i] : 0;
    }

    // ---- facts

    public int fact(int member, int from, int to) {
        long name = tape.takeName();
        if (!isMember(member)) {
            return UNKNOWN;
        }
        if (!isDay(from) || !isDay(to) || to < from) {
            return OUTSIDE;
        }
        if (name == Tape.NO_NAME || desk.sort == Value.PERSON) {
            return STATE;
        }
        if (register.facts == Register.FACTS) {
            return ROOM;
        }
        Fact fact = register.book[register.facts];
        fact.member = member;
        fact.name = name;
        fact.from = from;
        fact.to = to;
        fact.toldOn = now;
        fact.voidFrom = NONE;
        fact.value.setTo(desk);
        return register.facts++;
    }

    public int annul(int fact) {
        if (fact < 0 || fact >= register.facts) {
            return UNKNOWN;
        }
        if (register.book[fact].voidFrom != NONE) {
            return STATE;
        }
        register.book[fact].voidFrom = now;
        return 1;
    }

    public int known(int member, int day, int asOf) {
        long name = tape.takeName();
        if (!isMember(member)) {
            return UNKNOWN;
        }
        if (!isDay(day) || !isPast(asOf)) {
            return OUTSIDE;
        }
        if (name == Tape.NO_NAME) {
            return STATE;
        }
        int fact = register.latest(member, name, day, asOf);
        if (fact >= 0 && fact < register.facts) {
            desk.setTo(register.book[fact].value);
        }
        return fact;
    }

    // ---- texts, cases

    public int edition(int scheme, int first) {
        tape.open();
        if (!isScheme(scheme)) {
            return UNKNOWN;
        }
        if (!isDay(first)) {
            return OUTSIDE;
        }
        int place = placeForEdition(scheme, first);
        if (place < 0 || place >= editions.length) {
            return ROOM;
        }
        parser.parse();
        if (parser.fault != 0) {
            return FAULTY - parser.faultPlace;
        }
        Text text = parser.text;
        parser.text = editions[place];
        editions[place] = text;
        text.first = first;
        return text.rules;
    }

    public int fault() {
        return parser.fault;
    }

    public int inForce(int scheme, int day) {
        if (!isScheme(scheme)) {
            return UNKNOWN;
        }
        if (!isDay(day)) {
            return OUTSIDE;
        }
        Text text = textInForce(scheme, day);
        return text == null ? NONE : text.first;
    }

    public int figure(int member, int scheme, int day, int asOf) {
        long name = tape.takeName();
        if (!isMember(member) || !isScheme(scheme)) {
            return UNKNOWN;
        }
        if (!isDay(day) || !isPast(asOf)) {
            return OUTSIDE;
        }
        Text text = textInForce(scheme, day);
        if (name == Tape.NO_NAME || text == null || text.ruleNamed(name) == NONE) {
            return STATE;
        }
        worker.work(shown, text, name, member, day, asOf);
        if (shown.failure == 0) {
            desk.setTo(shown.figures[shown.wanted]);
        }
        return shown.failure;
    }

    public int told(int what) {
        switch (what) {
            case 0:
                return shown.line;
            case 1:
                return shown.work;
            case 2:
                return shown.stepCount;
            case 3:
                return shown.asked;
            case 4:
                return shown.tried;
            default:
                return OUTSIDE;
        }
    }

    public int step(int k) {
        if (k < 0 || k >= shown.stepCount) {
            return UNKNOWN;
        }
        int rule = shown.steps[k];
        int failure = shown.failures[rule];
        if (failure == 0) {
            desk.setTo(shown.figures[rule]);
        }
        return 100 * rule + failure;
    }

    public int trial(int scheme, int day, int asOf) {
        tape.open();
        if (!isScheme(scheme)) {
            return UNKNOWN;
        }
        if (!isDay(day) || !isPast(asOf)) {
            return OUTSIDE;
        }
        parser.parse();
        if (parser.fault != 0) {
            return FAULTY - parser.faultPlace;
        }
        Text inForce = textInForce(scheme, day);
        int others = 0;
        for (int member = 0; member < MEMBERS; member++) {
            worker.work(scratch, parser.text, DUE, member, day, asOf);
            worker.work(rival, inForce, DUE, member, day, asOf);
            if (!scratch.endsLike(rival)) {
                others |= 1 << member;
            }
        }
        return others;
    }

    // ---- awards, runs

    public int award(int member, int scheme, int month) {
        if (!isMember(member) || !isScheme(scheme)) {
            return UNKNOWN;
        }
        if (!isMonth(month)) {
            return OUTSIDE;
        }
        for (int i = 0; i < awardCount; i++) {
            if (awards[i].member == member && awards[i].scheme == scheme) {
                return STATE;
            }
        }
        if (awardCount == AWARDS) {
            return ROOM;
        }
        awards[awardCount].member = member;
        awards[awardCount].scheme = scheme;
        awards[awardCount].first = month;
        return awardCount++;
    }

    public int due(int award, int month, int asOf) {
        if (!isAward(award)) {
            return UNKNOWN;
        }
        if (!isMonth(month) || !isPast(asOf)) {
            return OUTSIDE;
        }
        dues(awards[award], month, month, asOf);
        return scratch.cents();
    }

    public int deduct(int award, int cents, int rank) {
        if (!isAward(award)) {
            return UNKNOWN;
        }
        if (cents < 1 || cents > Award.MOST_DEDUCTED || rank < 0 || rank > Award.LAST_RANK) {
            return OUTSIDE;
        }
        return awards[award].addDeduction(cents, rank);
    }

    public int share(int percent) {
        if (percent < 0 || percent > 100) {
            return OUTSIDE;
        }
        int before = this.percent;
        this.percent = percent;
        return before;
    }

    public int run(int month) {
        if (!isMonth(month)) {
            return OUTSIDE;
        }
        if (runPaid < runSize || month <= runMonth || month * DAYS_A_MONTH > now) {
            return STATE;
        }
        int size = 0;
        for (int i = 0; i < awardCount; i++) {
            if (awards[i].first <= month) {
                size++;
            }
        }
        if (paymentCount + size > PAYMENTS) {
            return ROOM;
        }
        beginRun(month);
        return size;
    }

    public int advance(int n) {
        if (n < 1 || n > AWARDS) {
            return OUTSIDE;
        }
        if (runPaid >= runSize) {
            return STATE;
        }
        int paid = 0;
        while (paid < n && runPaid < runSize && runPaid < runAwards.length && paymentCount < PAYMENTS) {
            int award = runAwards[runPaid];
            // the DUE comes last, so that the scratch CASE still tells whether it is UNCLEAR
            long behind = dues(awards[award], awards[award].first, runMonth - 1, now) - paidTo(award);
            long due = dues(awards[award], runMonth, runMonth, now);
            pay(award, due, behind);
            runPaid++;
            paid++;
        }
        return paid;
    }

    public long payment(int k, int what) {
        if (k < 0 || k >= paymentCount || what < 0 || what >= TAKEN) {
            return 0;
        }
        return payments[k][what];
    }

    public int taken(int k, int i) {
        if (k < 0 || k >= paymentCount) {
            return UNKNOWN;
        }
        if (i < 0 || i >= Award.DEDUCTIONS) {
            return OUTSIDE;
        }
        return (int) payments[k][TAKEN + i];
    }

    public int returned(int k) {
        if (k < 0 || k >= paymentCount) {
            return UNKNOWN;
        }
        if (payments[k][CAME_BACK] != 0) {
            return STATE;
        }
        payments[k][CAME_BACK] = 1;
        return 1;
    }

    public long balance(int award, int month) {
        if (!isAward(award) || !isMonth(month)) {
            return 0;
        }
        return dues(awards[award], awards[award].first, month, now) - paidTo(award);
    }

    public int count(int what) {
        switch (what) {
            case 0:
                return register.persons;
            case 1:
                return register.facts;
            case 2:
                return awardCount;
            case 3:
                return paymentCount;
            case 4:
                return runSize - runPaid;
            case 5:
                return tape.size;
            case 6:
                return now;
            default:
                return OUTSIDE;
        }
    }

    // ---- helpers of the calls

    private static boolean isDay(int day) {
        return day >= 0 && day <= LAST_DAY;
    }

    private boolean isPast(int asOf) {
        return asOf >= 0 && asOf <= now;
    }

    private static boolean isMonth(int month) {
        return month >= 0 && month <= LAST_MONTH;
    }

    private static boolean isMember(int member) {
        return member >= 0 && member < MEMBERS;
    }

    private static boolean isScheme(int scheme) {
        return scheme >= 0 && scheme < SCHEMES;
    }

    private boolean isAward(int award) {
        return award >= 0 && award < awardCount;
    }

    /** Where an EDITION of this FIRST day goes: in place of a like one, else where none is. */
    private int placeForEdition(int scheme, int first) {
        int free = NONE;
        for (int i = scheme * EDITIONS; i < (scheme + 1) * EDITIONS; i++) {
            if (editions[i].first == first) {
                return i;
            }
            if (editions[i].first == NONE && free == NONE) {
                free = i;
            }
        }
        return free;
    }

    private Text textInForce(int scheme, int day) {
        Text best = null;
        for (int i = scheme * EDITIONS; i < (scheme + 1) * EDITIONS; i++) {
            Text text = editions[i];
            if (text.first != NONE && text.first <= day && (best == null || text.first > best.first)) {
                best = text;
            }
        }
        return best;
    }

    /** The DUES of some MONTHS, added; the scratch CASE is left with the last one's. */
    private long dues(Award award, int from, int to, int asOf) {
        long sum = 0;
        for (int month = from; month <= to; month++) {
            int day = month * DAYS_A_MONTH;
            worker.work(scratch, textInForce(award.scheme, day), DUE, award.member, day, asOf);
            sum += Math.max(0, scratch.cents());
        }
        return sum;
    }

    /** All GROSS that an AWARD was paid and that did not come back. */
    private long paidTo(int award) {
        long sum = 0;
        for (int i = 0; i < paymentCount; i++) {
            if (payments[i][PAID_AWARD] == award && payments[i][CAME_BACK] == 0) {
                sum += payments[i][PAID_GROSS];
            }
        }
        return sum;
    }

    private void beginRun(int month) {
        runMonth = month;
        runSize = 0;
        runPaid = 0;
        for (int i = 0; i < awardCount; i++) {
            if (awards[i].first <= month) {
                runAwards[runSize++] = i;
            }
        }
    }

    private void pay(int award, long due, long behind) {
        long gross = due + behind;
        if (behind < 0) {
            gross = due - Math.min(-behind, due * percent / 100);
        }
        long[] payment = payments[paymentCount++];
        payment[PAID_AWARD] = award;
        payment[PAID_MONTH] = runMonth;
        payment[PAID_DUE] = due;
        payment[PAID_BEHIND] = behind;
        payment[PAID_GROSS] = gross;
        payment[PAID_NET] = awards[award].takeFrom(gross, payment, TAKEN);
        payment[CAME_BACK] = 0;
        payment[WAS_UNCLEAR] = scratch.cents() == NONE ? 1 : 0;
    }

    /** A VALUE: a number or a PERSON in the first of its bits, or a row in as many as it has items. */
    private static final class Value {
        static final int WHOLE = 0, REAL = 1, INTS = 2, LONGS = 3, REALS = 4;
        static final int KIN = 5, CHILDREN = 6, SPOUSES = 7, PERSON = 8;
        static final int ITEMS = 12;

        int sort;
        int size;
        final long[] bits;

        Value() {
            bits = new long[ITEMS];
        }

        void setNumber(int newSort, long newBits) {
            sort = newSort;
            size = 0;
            bits[0] = newBits;
        }

        /** A row of items 0, or none; newSize is 0 .. ITEMS. */
        void setRow(int newSort, int newSize) {
            sort = newSort;
            size = newSize;
            Arrays.fill(bits, newSort >= KIN ? NONE : 0);
        }

        void setTo(Value other) {
            sort = other.sort;
            size = other.size;
            System.arraycopy(other.bits, 0, bits, 0, ITEMS);
        }

        /** Puts bits in item i (0 of a number), as far as this SORT keeps them. */
        void setBits(int i, long newBits) {
            if (i < 0 || i >= ITEMS) {
                return;
            }
            if (sort == INTS) {
                bits[i] = (int) newBits;
            } else if ((sort == REAL || sort == REALS) && Real.isNot(newBits)) {
                bits[i] = Real.NOT_A_NUMBER;
            } else {
                bits[i] = newBits;
            }
        }

        boolean isNumber() {
            return sort == WHOLE || sort == REAL;
        }

        boolean isRow() {
            return sort >= INTS && sort <= SPOUSES;
        }

        boolean isRowOfNumbers() {
            return sort >= INTS && sort <= REALS;
        }

        boolean isKin() {
            return sort >= KIN && sort <= SPOUSES;
        }

        boolean hasItem(long i) {
            return i >= 0 && i < size && i < ITEMS;
        }

        boolean isLike(Value other) {
            if (sort != other.sort || size != other.size) {
                return false;
            }
            int used = isRow() ? size : 1;
            for (int i = 0; i < used && i < ITEMS; i++) {
                if (bits[i] != other.bits[i]) {
                    return false;
                }
            }
            return true;
        }
    }

    /** A FACT; voidFrom is NONE while it is not VOID. */
    private static final class Fact {
        int member;
        long name;
        int from;
        int to;
        int toldOn;
        int voidFrom;
        final Value value;

        Fact() {
            value = new Value();
        }

        boolean isKnown(int day, int asOf) {
            boolean isVoid = voidFrom != NONE && voidFrom <= asOf;
            return toldOn <= asOf && !isVoid && from <= day && day <= to;
        }
    }

    /** The PERSONS and the FACTS. */
    private static final class Register {
        static final int PERSONS = 16, FACTS = 200, EARLIEST_BIRTH = -40000;

        int persons;
        final boolean[] isChild;
        final int[] births;
        int facts;
        final Fact[] book;

        Register() {
            isChild = new boolean[PERSONS];
            births = new int[PERSONS];
            book = new Fact[FACTS];
            for (int i = 0; i < book.length; i++) {
                book[i] = new Fact();
            }
        }

        int addPerson(boolean child, int birth) {
            if (persons >= PERSONS) {
                return ROOM;
            }
            isChild[persons] = child;
            births[persons] = birth;
            return persons++;
        }

        boolean hasPerson(long person) {
            return person >= 0 && person < persons;
        }

        /** Whether a PERSON, or none, may be an item of KIN of this SORT. */
        boolean belongs(int sort, long person) {
            if (sort == Value.KIN || !hasPerson(person)) {
                return true;
            }
            return isChild[(int) person] == (sort == Value.CHILDREN);
        }

        /** The FACT that is KNOWN, or NONE. */
        int latest(int member, long name, int day, int asOf) {
            for (int i = facts - 1; i >= 0; i--) {
                Fact fact = book[i];
                if (fact.member == member && fact.name == name && fact.isKnown(day, asOf)) {
                    return i;
                }
            }
            return NONE;
        }
    }

    /** An AWARD and its DEDUCTIONS, as told. */
    private static final class Award {
        static final int DEDUCTIONS = 6, MOST_DEDUCTED = 1000000, LAST_RANK = 9;

        int member;
        int scheme;
        int first;
        private int deductions;
        private final int[] cents;
        private final int[] ranks;

        Award() {
            cents = new int[DEDUCTIONS];
            ranks = new int[DEDUCTIONS];
        }

        /** How many there are then, or ROOM. */
        int addDeduction(int newCents, int rank) {
            if (deductions >= DEDUCTIONS) {
                return ROOM;
            }
            cents[deductions] = newCents;
            ranks[deductions] = rank;
            deductions++;
            return deductions;
        }

        /** Puts what each DEDUCTION gets into row, from a column on, and answers what is left. */
        long takeFrom(long gross, long[] row, int column) {
            long left = gross;
            for (int rank = 0; rank <= LAST_RANK; rank++) {
                for (int i = 0; i < deductions && column + i < row.length; i++) {
                    if (ranks[i] == rank) {
                        long got = Math.min(left, cents[i]);
                        row[column + i] = got;
                        left -= got;
                    }
                }
            }
            return left;
        }
    }

    /** THE TAPE, and the TOKENS that are read from it one by one. */
    private static final class Tape {
        static final int MOST = 1600, LONGEST_NAME = 8;
        static final long NO_NAME = 0;

        /** Kinds of TOKENS and of PARTS; a SIGN of one byte is told by that byte. */
        static final int END = 0, BAD = 1, NAME = 2, WHOLE_NUMBER = 3, REAL_NUMBER = 4;
        static final int NEGATIVE = 5, COUNTER = 6, FIGURE = 7, FACT = 8, LESS_OR_EQUAL = 9, NOT_EQUAL = 10;
        static final int FIRST_WORD = 128;
        static final int BEST = 128, BORN = 129, CEIL = 130, DAY = 131, ELSE = 132, FLOOR = 133, FROM = 134;
        static final int IF = 135, JOIN = 136, LAST = 137, LEN = 138, MAX = 139, MIN = 140, NEAR = 141;
        static final int OF = 142, REAL = 143, ROOT = 144, RULE = 145, SUM = 146, THEN = 147, TO = 148;
        static final int TRY = 149, WHOLE = 150, WITH = 151, ZEROS = 152;

        /** In the order of their numbers above; one literal, as LANGUAGE.md joins no texts by +. */
        private static final String WORDS =
            "best born ceil day else floor from if join last len max min near of real root rule sum then to try whole with zeros ";
        private static final String SIGNS = ";=+-*/%()[],<!";

        final byte[] bytes;
        int size;
        /** How many bytes are read now; size is 0 by then, as THE TAPE is used up. */
        private int end;
        private int at;
        int token;
        int place;
        /** Of a NAME its letters, eight bits each; of a NUMBER its digits, without a point. */
        long content;
        int decimals;

        Tape() {
            bytes = new byte[MOST];
        }

        void add(byte b) {
            if (size < MOST) {
                bytes[size++] = b;
            }
        }

        /** Uses THE TAPE up: what it had can be read until it is fed again. */
        void open() {
            end = size;
            at = 0;
            size = 0;
        }

        /** The NAME that THE TAPE is, packed, or NO_NAME. */
        long takeName() {
            open();
            next();
            if (token != NAME) {
                return NO_NAME;
            }
            long name = content;
            next();
            return token == END ? name : NO_NAME;
        }

        void next() {
            while (at < end && (byteAt(at) == ' ' || byteAt(at) == '\n')) {
                at++;
            }
            place = at;
            int first = byteAt(at);
            if (at >= end) {
                token = END;
            } else if (isLetter(first)) {
                readLetters();
            } else if (isDigit(first)) {
                readDigits();
            } else {
                readSign(first);
            }
        }

        /** A byte that is read, or -1 behind the last one. */
        private int byteAt(int i) {
            return i >= 0 && i < end && i < MOST ? bytes[i] & 255 : -1;
        }

        private static boolean isLetter(int b) {
            return b >= 'a' && b <= 'z';
        }

        private static boolean isDigit(int b) {
            return b >= '0' && b <= '9';
        }

        private void readLetters() {
            content = 0;
            while (at < end && (isLetter(byteAt(at)) || isDigit(byteAt(at)))) {
                content = content << 8 | byteAt(at);
                at++;
            }
            token = at - place > LONGEST_NAME ? BAD : wordOrName(content);
        }

        private static int wordOrName(long name) {
            int word = FIRST_WORD;
            long packed = 0;
            for (int i = 0; i < WORDS.length(); i++) {
                char letter = WORDS.charAt(i);
                if (letter != ' ') {
                    packed = packed << 8 | letter;
                } else if (packed == name) {
                    return word;
                } else {
                    packed = 0;
                    word++;
                }
            }
            return NAME;
        }

        private void readDigits() {
            content = 0;
            decimals = 0;
            boolean isPointBehind = false;
            while (at < end && (isDigit(byteAt(at)) || byteAt(at) == '.' && isDigit(byteAt(at + 1)) && !isPointBehind)) {
                if (byteAt(at) == '.') {
                    isPointBehind = true;
                } else {
                    content = content * 10 + (byteAt(at) - '0');
                    decimals += isPointBehind ? 1 : 0;
                }
                at++;
            }
            int digits = at - place - (isPointBehind ? 1 : 0);
            if (isPointBehind) {
                token = digits - decimals <= 9 && decimals <= 6 ? REAL_NUMBER : BAD;
            } else {
                token = digits <= 15 ? WHOLE_NUMBER : BAD;
            }
        }

        private void readSign(int sign) {
            boolean equalBehind = byteAt(at + 1) == '=';
            at++;
            if (sign == '<' && equalBehind) {
                token = LESS_OR_EQUAL;
                at++;
            } else if (sign == '!' && equalBehind) {
                token = NOT_EQUAL;
                at++;
            } else {
                token = sign == '!' || SIGNS.indexOf((char) sign) < 0 ? BAD : sign;
            }
        }

        /** Of how many E a FUNCTION is; 0: the TOKEN is none. */
        static int arity(int token) {
            switch (token) {
                case BORN: case CEIL: case FLOOR: case LEN: case NEAR: case REAL: case ROOT: case WHOLE: case ZEROS:
                    return 1;
                case BEST: case JOIN: case LAST: case MAX: case MIN:
                    return 2;
                case WITH:
                    return 3;
                default:
                    return 0;
            }
        }
    }

    /** A text as it was read: its PARTS, each with those that it is made of, and its rules. */
    private static final class Text {
        static final int RULES = 24, PARTS = 300, INNERS = 3;

        /** The FIRST day of an EDITION; NONE: it is no EDITION. */
        int first;
        int parts;
        final int[] kinds;
        /** A WHOLE, the bits of a REAL, a packed NAME, the number of a rule, or the PART of a sum. */
        final long[] contents;
        private final int[] inners;
        int rules;
        final long[] names;
        final int[] roots;

        Text() {
            first = NONE;
            kinds = new int[PARTS];
            contents = new long[PARTS];
            inners = new int[PARTS * INNERS];
            names = new long[RULES];
            roots = new int[RULES];
        }

        void clear() {
            first = NONE;
            parts = 0;
            rules = 0;
        }

        /** A new PART, or NONE if there are too many. */
        int addPart(int kind, long content) {
            if (parts >= PARTS) {
                return NONE;
            }
            kinds[parts] = kind;
            contents[parts] = content;
            return parts++;
        }

        void setInner(int part, int k, int inner) {
            if (part >= 0 && part < parts && k >= 0 && k < INNERS) {
                inners[part * INNERS + k] = inner;
            }
        }

        int inner(int part, int k) {
            return part >= 0 && part < parts && k >= 0 && k < INNERS ? inners[part * INNERS + k] : NONE;
        }

        void addRule(long name, int root) {
            if (rules < RULES) {
                names[rules] = name;
                roots[rules] = root;
                rules++;
            }
        }

        int ruleNamed(long name) {
            for (int i = 0; i < rules; i++) {
                if (names[i] == name) {
                    return i;
                }
            }
            return NONE;
        }
    }

    /**
     * Reads a text from THE TAPE. Behind the first FAULT nothing is read any more: every method then
     * falls through to its end.
     */
    private static final class Parser {
        static final int NO_TOKEN = 1, MISPLACED = 2, TOLD_ALREADY = 3, MUCH = 4;
        static final int DEEPEST = 20;

        final Tape tape;
        Text text;
        int fault;
        int faultPlace;
        private final long[] counterNames;
        private final int[] counterSums;
        private int counters;

        Parser() {
            tape = new Tape();
            text = new Text();
            counterNames = new long[DEEPEST];
            counterSums = new int[DEEPEST];
        }

        /** Reads what THE TAPE was into text. */
        void parse() {
            text.clear();
            fault = 0;
            faultPlace = 0;
            counters = 0;
            tape.next();
            for (int i = 0; i <= Text.RULES && fault == 0 && tape.token != Tape.END; i++) {
                if (tape.token == Tape.RULE && text.rules == Text.RULES) {
                    refuse(MUCH);
                }
                take(Tape.RULE);
                long name = tape.content;
                if (tape.token == Tape.NAME && text.ruleNamed(name) != NONE) {
                    refuse(TOLD_ALREADY);
                }
                take(Tape.NAME);
                take('=');
                int root = readE(0);
                take(';');
                if (fault == 0) {
                    text.addRule(name, root);
                }
            }
        }

        private void refuse(int kind) {
            if (fault == 0) {
                fault = kind;
                faultPlace = tape.place;
            }
        }

        private void refuseToken() {
            refuse(tape.token == Tape.BAD ? NO_TOKEN : MISPLACED);
        }

        private void take(int token) {
            if (fault != 0) {
                return;
            }
            if (tape.token == token) {
                tape.next();
            } else {
                refuseToken();
            }
        }

        /** Makes the TOKEN a PART and goes on to the next one. */
        private int part(int kind, long content) {
            if (fault != 0) {
                return NONE;
            }
            int part = text.addPart(kind, content);
            if (part == NONE) {
                refuse(MUCH);
            } else {
                tape.next();
            }
            return part;
        }

        private boolean isNext(int token) {
            return fault == 0 && tape.token == token;
        }

        /** Whether a U begins here: a wrong TOKEN is told ahead of a U that lies too deep. */
        private boolean beginsU() {
            switch (tape.token) {
                case Tape.WHOLE_NUMBER: case Tape.REAL_NUMBER: case Tape.NAME: case Tape.DAY: case Tape.SUM:
                case '(': case '-':
                    return true;
                default:
                    return Tape.arity(tape.token) > 0;
            }
        }

        private boolean mayBegin(boolean fits, int depth) {
            if (!fits) {
                refuseToken();
            } else if (depth >= DEEPEST) {
                refuse(MUCH);
            }
            return fault == 0;
        }

        /** depth: how many E and U lie around. */
        private int readE(int depth) {
            boolean isIf = tape.token == Tape.IF;
            boolean isTry = tape.token == Tape.TRY;
            if (!mayBegin(isIf || isTry || beginsU(), depth)) {
                return NONE;
            }
            if (!isIf && !isTry) {
                return readC(depth);
            }
            int part = part(tape.token, 0);
            int k = 0;
            text.setInner(part, k++, readE(depth + 1));
            if (isIf) {
                take(Tape.THEN);
                text.setInner(part, k++, readE(depth + 1));
            }
            take(Tape.ELSE);
            text.setInner(part, k, readE(depth + 1));
            return part;
        }

        private int readC(int depth) {
            int left = readA(depth);
            if (isNext('<') || isNext(Tape.LESS_OR_EQUAL) || isNext('=') || isNext(Tape.NOT_EQUAL)) {
                int part = part(tape.token, 0);
                text.setInner(part, 0, left);
                text.setInner(part, 1, readA(depth));
                return part;
            }
            return left;
        }

        private int readA(int depth) {
            int left = readM(depth);
            for (int i = 0; i <= Text.PARTS && (isNext('+') || isNext('-')); i++) {
                int part = part(tape.token, 0);
                text.setInner(part, 0, left);
                text.setInner(part, 1, readM(depth));
                left = part;
            }
            return left;
        }

        private int readM(int depth) {
            int left = readU(depth + 1);
            for (int i = 0; i <= Text.PARTS && (isNext('*') || isNext('/') || isNext('%')); i++) {
                int part = part(tape.token, 0);
                text.setInner(part, 0, left);
                text.setInner(part, 1, readU(depth + 1));
                left = part;
            }
            return left;
        }

        private int readU(int depth) {
            if (!mayBegin(beginsU(), depth)) {
                return NONE;
            }
            if (tape.token == '-') {
                int part = part(Tape.NEGATIVE, 0);
                text.setInner(part, 0, readU(depth + 1));
                return part;
            }
            int left = readP(depth);
            for (int i = 0; i <= Text.PARTS && isNext('['); i++) {
                int part = part('[', 0);
                text.setInner(part, 0, left);
                text.setInner(part, 1, readE(depth + 1));
                take(']');
                left = part;
            }
            return left;
        }

        private int readP(int depth) {
            switch (tape.token) {
                case Tape.WHOLE_NUMBER:
                    return part(Tape.WHOLE_NUMBER, tape.content);
                case Tape.REAL_NUMBER:
                    return part(Tape.REAL_NUMBER, Real.decimal(tape.content, tape.decimals));
                case Tape.DAY:
                    return part(Tape.DAY, 0);
                case Tape.NAME:
                    int sum = sumOf(tape.content);
                    int rule = text.ruleNamed(tape.content);
                    if (sum != NONE) {
                        return part(Tape.COUNTER, sum);
                    }
                    return rule != NONE ? part(Tape.FIGURE, rule) : part(Tape.FACT, tape.content);
                case Tape.SUM:
                    return readSum(depth);
                case '(':
                    take('(');
                    int inner = readE(depth + 1);
                    take(')');
                    return inner;
                default:
                    return readFunction(depth);
            }
        }

        /** The sum around with this NAME, the innermost; NONE: there is none. */
        private int sumOf(long name) {
            for (int i = counters - 1; i >= 0; i--) {
                if (counterNames[i] == name) {
                    return counterSums[i];
                }
            }
            return NONE;
        }

        private int readSum(int depth) {
            int part = part(Tape.SUM, 0);
            long name = tape.content;
            take(Tape.NAME);
            take(Tape.FROM);
            text.setInner(part, 0, readE(depth + 1));
            take(Tape.TO);
            text.setInner(part, 1, readE(depth + 1));
            take(Tape.OF);
            if (fault == 0 && counters < DEEPEST) {
                counterNames[counters] = name;
                counterSums[counters] = part;
                counters++;
                text.setInner(part, 2, readU(depth + 1));
                counters--;
            }
            return part;
        }

        private int readFunction(int depth) {
            int arity = Tape.arity(tape.token);
            int part = part(tape.token, 0);
            for (int k = 0; k < arity; k++) {
                take(k == 0 ? '(' : ',');
                text.setInner(part, k, readE(depth + 1));
            }
            take(')');
            return part;
        }
    }

    /** What a CASE came to, and how. */
    private static final class Case {
        static final int NOTHING = 1, WRONG_SORT = 2, NO_INDEX = 3, WRONG_SIZE = 4;
        static final int NOT_BELONGING = 5, TOO_GREAT = 6, OVERWORK = 7;
        private static final int NOT_WORKED = -1;
        private static final long MOST_DUE = 1000000000L;

        /** The rule that the CASE was for. */
        int wanted;
        int failure;
        /** The LINE of the FAILURE. */
        int line;
        int work;
        int asked;
        int tried;
        final int[] failures;
        final int[] lines;
        final Value[] figures;
        final int[] steps;
        int stepCount;

        Case() {
            line = NONE;
            failures = new int[Text.RULES];
            lines = new int[Text.RULES];
            steps = new int[Text.RULES];
            figures = new Value[Text.RULES];
            for (int i = 0; i < figures.length; i++) {
                figures[i] = new Value();
            }
        }

        void clear() {
            wanted = 0;
            failure = 0;
            line = NONE;
            work = 0;
            asked = 0;
            tried = 0;
            stepCount = 0;
            Arrays.fill(failures, NOT_WORKED);
        }

        boolean isWorked(int rule) {
            return rule >= 0 && rule < failures.length && failures[rule] != NOT_WORKED;
        }

        /** A rule ends: its FAILURE, or its figure, stands from now on. */
        void endRule(int rule, Value figure) {
            if (rule < 0 || rule >= failures.length || stepCount >= steps.length || isWorked(rule)) {
                return;
            }
            failures[rule] = failure;
            lines[rule] = line;
            if (failure == 0) {
                figures[rule].setTo(figure);
            }
            steps[stepCount++] = rule;
        }

        boolean endsLike(Case other) {
            if (failure != other.failure) {
                return false;
            }
            return failure != 0 || figures[wanted].isLike(other.figures[other.wanted]);
        }

        /** The DUE that the CASE came to, or NONE: it is UNCLEAR. */
        int cents() {
            if (failure != 0 || figures[wanted].sort != Value.WHOLE) {
                return NONE;
            }
            return (int) Math.min(MOST_DUE, Math.max(0, figures[wanted].bits[0]));
        }
    }

    /**
     * Works CASES. The PARTS that are being worked stand in frames, the innermost last, each with the
     * stage it is at; what they came to stands on the pile. No method calls itself: a long sum lies as
     * many PARTS deep as it has operators.
     */
    private static final class Worker {
        private static final int MOST_WORK = 400, TRY_WORK = 150, ROW_WORK = 25;
        /** Each PART stands in one frame at most; beside one VALUE of each a sum piles up one more. */
        private static final int FRAMES = Text.PARTS, PILE = 2 * Text.PARTS;
        private static final int MOST_TURNS = 1000000;

        private final Register register;
        private final int[] frameParts;
        private final int[] frameStages;
        private final int[] frameHeights;
        private final int[] frameRules;
        private int frames;
        private final Value[] pile;
        private int height;
        /** The number that each sum is at, by its PART. */
        private final long[] counters;
        private Case file;
        private Text text;
        private int member;
        private int day;
        private int asOf;

        Worker(Register register) {
            this.register = register;
            frameParts = new int[FRAMES];
            frameStages = new int[FRAMES];
            frameHeights = new int[FRAMES];
            frameRules = new int[FRAMES];
            counters = new long[Text.PARTS];
            pile = new Value[PILE];
            for (int i = 0; i < pile.length; i++) {
                pile[i] = new Value();
            }
        }

        /** Works the rule of that NAME; where there is no text (null) or no such rule, it is NOTHING. */
        void work(Case newFile, Text newText, long name, int newMember, int newDay, int newAsOf) {
            file = newFile;
            text = newText;
            member = newMember;
            day = newDay;
            asOf = newAsOf;
            file.clear();
            int rule = text == null ? NONE : text.ruleNamed(name);
            if (rule == NONE) {
                file.failure = Case.NOTHING;
                return;
            }
            file.wanted = rule;
            frames = 0;
            height = 0;
            enter(text.roots[rule], rule);
            for (int i = 0; i < MOST_TURNS && frames > 0; i++) {
                if (file.failure == 0) {
                    turn();
                } else {
                    leaveFailed();
                }
            }
            file.endRule(rule, pile[0]);
        }

        /** The innermost PART goes on by one stage. */
        private void turn() {
            int part = frameParts[frames - 1];
            int kind = text.kinds[part];
            int stage = frameStages[frames - 1];
            if (stage == 0 && !spend(workOf(kind))) {
                return;
            }
            frameStages[frames - 1]++;
            switch (kind) {
                case Tape.WHOLE_NUMBER:
                    pushNumber(Value.WHOLE, text.contents[part]);
                    break;
                case Tape.REAL_NUMBER:
                    pushNumber(Value.REAL, text.contents[part]);
                    break;
                case Tape.DAY:
                    pushNumber(Value.WHOLE, day);
                    break;
                case Tape.COUNTER:
                    pushNumber(Value.WHOLE, counterOf(text.contents[part]));
                    break;
                case Tape.FACT:
                    askFact(text.contents[part]);
                    break;
                case Tape.FIGURE:
                    wantRule((int) text.contents[part], stage);
                    break;
                case Tape.IF:
                    decide(part, stage);
                    break;
                case Tape.TRY:
                    attempt(part, stage);
                    break;
                case Tape.SUM:
                    addUp(part, stage);
                    break;
                default:
                    if (stage < arityOf(kind)) {
                        enterInner(part, stage);
                    } else {
                        finish(kind, frameHeights[frames - 1]);
                    }
            }
        }

        private static int workOf(int kind) {
            switch (kind) {
                case Tape.TRY:
                    return TRY_WORK;
                case Tape.ZEROS: case Tape.LAST: case Tape.JOIN: case Tape.WITH:
                    return ROW_WORK;
                default:
                    return 1;
            }
        }

        private boolean spend(int work) {
            if (file.work + work > MOST_WORK) {
                fail(Case.OVERWORK);
                return false;
            }
            file.work += work;
            return true;
        }

        private void fail(int failure) {
            file.failure = failure;
            file.line = frameRules[frames - 1];
        }

        private void enter(int part, int rule) {
            if (part < 0 || part >= text.parts || frames >= FRAMES) {
                file.failure = Case.OVERWORK;
                file.line = rule;
                return;
            }
            frameParts[frames] = part;
            frameStages[frames] = 0;
            frameHeights[frames] = height;
            frameRules[frames] = rule;
            frames++;
        }

        private void enterInner(int part, int k) {
            enter(text.inner(part, k), frameRules[frames - 1]);
        }

        private void leave() {
            frames--;
        }

        /** The innermost PART has FAILED: a try that is at its E takes its F, all else FAILS too. */
        private void leaveFailed() {
            int frame = frames - 1;
            int part = frameParts[frame];
            if (text.kinds[part] == Tape.TRY && frameStages[frame] == 1 && file.failure != Case.OVERWORK) {
                file.failure = 0;
                file.line = NONE;
                file.tried++;
                height = frameHeights[frame];
                frameStages[frame] = 2;
                enterInner(part, 1);
                return;
            }
            // at stage 0 there was no WORK left to want the rule: it was not begun
            if (text.kinds[part] == Tape.FIGURE && frameStages[frame] > 0) {
                file.endRule((int) text.contents[part], pile[0]);
            }
            leave();
        }

        /** The VALUE that comes next on the pile. */
        private Value pushed() {
            return pile[height < PILE ? height++ : PILE - 1];
        }

        private void pushNumber(int sort, long bits) {
            pushed().setNumber(sort, bits);
            leave();
        }

        private long counterOf(long sum) {
            return sum >= 0 && sum < counters.length ? counters[(int) sum] : 0;
        }

        private void askFact(long name) {
            file.asked++;
            int fact = register.latest(member, name, day, asOf);
            if (fact < 0 || fact >= Register.FACTS) {
                fail(Case.NOTHING);
                return;
            }
            pushed().setTo(register.book[fact].value);
            leave();
        }

        private void wantRule(int rule, int stage) {
            if (rule < 0 || rule >= text.rules) {
                fail(Case.NOTHING);
            } else if (stage > 0) {
                file.endRule(rule, pile[Math.max(0, height - 1)]);
                leave();
            } else if (!file.isWorked(rule)) {
                enter(text.roots[rule], rule);
            } else if (file.failures[rule] != 0) {
                file.failure = file.failures[rule];
                file.line = file.lines[rule];
            } else {
                pushed().setTo(file.figures[rule]);
                leave();
            }
        }

        private void decide(int part, int stage) {
            int base = frameHeights[frames - 1];
            if (base < 0 || base >= PILE) {
                fail(Case.OVERWORK);
            } else if (stage == 0) {
                enterInner(part, 0);
            } else if (stage > 1) {
                leave();
            } else if (pile[base].sort != Value.WHOLE) {
                fail(Case.WRONG_SORT);
            } else {
                height = base;
                enterInner(part, pile[base].bits[0] != 0 ? 1 : 2);
            }
        }

        private void attempt(int part, int stage) {
            if (stage == 0) {
                enterInner(part, 0);
            } else {
                leave();
            }
        }

        /** On the pile: from, to, the sum so far, and what the U came to; from stage 3 on a U has ended. */
        private void addUp(int part, int stage) {
            if (stage < 2) {
                enterInner(part, stage);
                return;
            }
            int base = frameHeights[frames - 1];
            if (base < 0 || base + 3 >= PILE) {
                fail(Case.OVERWORK);
                return;
            }
            Value from = pile[base];
            Value to = pile[base + 1];
            Value sum = pile[base + 2];
            boolean isOver;
            if (stage == 2) {
                if (from.sort != Value.WHOLE || to.sort != Value.WHOLE) {
                    fail(Case.WRONG_SORT);
                    return;
                }
                sum.setNumber(Value.WHOLE, 0);
                counters[part] = from.bits[0];
                isOver = from.bits[0] > to.bits[0];
            } else {
                int failure = Ops.arithmetic('+', sum, pile[base + 3]);
                if (failure != 0) {
                    fail(failure);
                    return;
                }
                isOver = counters[part] == to.bits[0];
                counters[part]++;
            }
            if (isOver) {
                from.setTo(sum);
                height = base + 1;
                leave();
            } else if (spend(1)) {
                height = base + 3;
                enterInner(part, 2);
            }
        }

        /** Of how many E or U an operator, a [ or a FUNCTION is made. */
        private static int arityOf(int kind) {
            if (kind >= Tape.FIRST_WORD) {
                return Tape.arity(kind);
            }
            return kind == Tape.NEGATIVE ? 1 : 2;
        }

        /** All that an operator, a [ or a FUNCTION is made of is worked: now what itself asks. */
        private void finish(int kind, int base) {
            if (base < 0 || base + 2 >= PILE) {
                fail(Case.OVERWORK);
                return;
            }
            Value first = pile[base];
            Value second = pile[base + 1];
            int failure;
            switch (kind) {
                case '[':
                    failure = Ops.item(first, second);
                    break;
                case Tape.NEGATIVE:
                    failure = Ops.negative(first);
                    break;
                case Tape.BORN:
                    failure = Ops.born(register, first);
                    break;
                case Tape.LEN:
                    failure = Ops.len(first);
                    break;
                case Tape.WHOLE:
                    failure = Ops.whole(first);
                    break;
                case Tape.REAL: case Tape.FLOOR: case Tape.CEIL: case Tape.NEAR: case Tape.ROOT:
                    failure = Ops.real(kind, first);
                    break;
                case Tape.ZEROS:
                    failure = Ops.zeros(first);
                    break;
                case Tape.BEST:
                    failure = Ops.best(first, second);
                    break;
                case Tape.JOIN:
                    failure = Ops.join(register, first, second);
                    break;
                case Tape.LAST:
                    failure = Ops.last(first, second);
                    break;
                case Tape.WITH:
                    failure = Ops.with(register, first, second, pile[base + 2]);
                    break;
                case Tape.MIN: case Tape.MAX:
                    failure = Ops.extreme(kind == Tape.MIN, first, second);
                    break;
                case '<': case '=': case Tape.LESS_OR_EQUAL: case Tape.NOT_EQUAL:
                    failure = Ops.compare(kind, first, second);
                    break;
                default:
                    failure = Ops.arithmetic(kind, first, second);
            }
            if (failure != 0) {
                fail(failure);
                return;
            }
            height = base + 1;
            leave();
        }
    }

    /**
     * What operators, [ and FUNCTIONS ask of their VALUES. Each answers the kind of its FAILURE, or 0,
     * and leaves what it comes to in the first of the VALUES.
     */
    private static final class Ops {
        private static final long LEAST = 0x8000000000000000L;

        static int arithmetic(int sign, Value first, Value second) {
            if (!first.isNumber() || !second.isNumber()) {
                return Case.WRONG_SORT;
            }
            long a = first.bits[0];
            long b = second.bits[0];
            if (first.sort == Value.WHOLE && second.sort == Value.WHOLE) {
                if (isBeyond(sign, a, b)) {
                    return Case.TOO_GREAT;
                }
                first.bits[0] = wholeArithmetic(sign, a, b);
                return 0;
            }
            a = first.sort == Value.REAL ? a : Real.nearest(a);
            b = second.sort == Value.REAL ? b : Real.nearest(b);
            switch (sign) {
                case '+':
                    first.setNumber(Value.REAL, Real.plus(a, b));
                    break;
                case '-':
                    first.setNumber(Value.REAL, Real.plus(a, b ^ Real.SIGN));
                    break;
                case '*':
                    first.setNumber(Value.REAL, Real.times(a, b));
                    break;
                case '/':
                    first.setNumber(Value.REAL, Real.over(a, b));
                    break;
                default:
                    first.setNumber(Value.REAL, Real.remainder(a, b));
            }
            return 0;
        }

        /** Whether WHOLE a and b come to what 64 bits can't hold, or b divides and is 0. */
        private static boolean isBeyond(int sign, long a, long b) {
            switch (sign) {
                case '+':
                    return ((a ^ (a + b)) & (b ^ (a + b))) < 0;
                case '-':
                    return ((a ^ b) & (a ^ (a - b))) < 0;
                case '*':
                    // LEAST * -1 wraps around to LEAST, and LEAST / -1 too: the division can't tell that pair
                    return b != 0 && (a * b / b != a || a == LEAST && b == -1);
                default:
                    return b == 0;
            }
        }

        private static long wholeArithmetic(int sign, long a, long b) {
            switch (sign) {
                case '+':
                    return a + b;
                case '-':
                    return a - b;
                case '*':
                    return a * b;
                case '/':
                    return b == 0 ? 0 : a / b;
                default:
                    return b == 0 ? 0 : a % b;
            }
        }

        static int compare(int sign, Value first, Value second) {
            if (!first.isNumber() || !second.isNumber()) {
                return Case.WRONG_SORT;
            }
            long a = first.bits[0];
            long b = second.bits[0];
            boolean isTold = sign == Tape.NOT_EQUAL;
            if (first.sort == Value.WHOLE && second.sort == Value.WHOLE) {
                isTold = tells(sign, a, b);
            } else {
                a = first.sort == Value.REAL ? a : Real.nearest(a);
                b = second.sort == Value.REAL ? b : Real.nearest(b);
                if (!Real.isNot(a) && !Real.isNot(b)) {
                    isTold = tells(sign, Real.orderWithoutSignOfZero(a), Real.orderWithoutSignOfZero(b));
                }
            }
            first.setNumber(Value.WHOLE, isTold ? 1 : 0);
            return 0;
        }

        private static boolean tells(int sign, long a, long b) {
            switch (sign) {
                case '<':
                    return a < b;
                case Tape.LESS_OR_EQUAL:
                    return a <= b;
                case '=':
                    return a == b;
                default:
                    return a != b;
            }
        }

        /** min or max. */
        static int extreme(boolean isMin, Value first, Value second) {
            if (!first.isNumber() || !second.isNumber()) {
                return Case.WRONG_SORT;
            }
            long a = first.bits[0];
            long b = second.bits[0];
            if (first.sort == Value.WHOLE && second.sort == Value.WHOLE) {
                first.bits[0] = isMin ? Math.min(a, b) : Math.max(a, b);
                return 0;
            }
            a = first.sort == Value.REAL ? a : Real.nearest(a);
            b = second.sort == Value.REAL ? b : Real.nearest(b);
            boolean isFirst = isMin == (Real.order(a) <= Real.order(b));
            if (Real.isNot(a) || Real.isNot(b)) {
                isFirst = Real.isNot(a);
            }
            first.setNumber(Value.REAL, isFirst ? a : b);
            return 0;
        }

        static int negative(Value value) {
            if (!value.isNumber()) {
                return Case.WRONG_SORT;
            }
            if (value.sort == Value.REAL) {
                value.setBits(0, value.bits[0] ^ Real.SIGN);
                return 0;
            }
            if (value.bits[0] == LEAST) {
                return Case.TOO_GREAT;
            }
            value.bits[0] = -value.bits[0];
            return 0;
        }

        static int item(Value row, Value index) {
            if (!row.isRow() || index.sort != Value.WHOLE) {
                return Case.WRONG_SORT;
            }
            if (!row.hasItem(index.bits[0])) {
                return Case.NO_INDEX;
            }
            long item = row.bits[(int) index.bits[0]];
            if (row.isKin() && item == NONE) {
                return Case.NOTHING;
            }
            int sort = row.sort == Value.REALS ? Value.REAL : Value.WHOLE;
            row.setNumber(row.isKin() ? Value.PERSON : sort, item);
            return 0;
        }

        static int born(Register register, Value value) {
            if (value.sort != Value.PERSON) {
                return Case.WRONG_SORT;
            }
            if (!register.hasPerson(value.bits[0])) {
                return Case.NOTHING;
            }
            value.setNumber(Value.WHOLE, register.births[(int) value.bits[0]]);
            return 0;
        }

        static int len(Value value) {
            if (!value.isRow()) {
                return Case.WRONG_SORT;
            }
            value.setNumber(Value.WHOLE, value.size);
            return 0;
        }

        static int whole(Value value) {
            if (!value.isNumber()) {
                return Case.WRONG_SORT;
            }
            if (value.sort == Value.REAL) {
                value.setNumber(Value.WHOLE, Real.cutOff(value.bits[0]));
            }
            return 0;
        }

        /** real, floor, ceil, near, root. */
        static int real(int kind, Value value) {
            if (!value.isNumber()) {
                return Case.WRONG_SORT;
            }
            long x = value.sort == Value.REAL ? value.bits[0] : Real.nearest(value.bits[0]);
            switch (kind) {
                case Tape.FLOOR:
                    x = Real.below(x);
                    break;
                case Tape.CEIL:
                    x = Real.below(x ^ Real.SIGN) ^ Real.SIGN;
                    break;
                case Tape.NEAR:
                    x = Real.near(x);
                    break;
                case Tape.ROOT:
                    x = Real.root(x);
                    break;
                default:
                    break;
            }
            value.setNumber(Value.REAL, x);
            return 0;
        }

        static int zeros(Value value) {
            if (value.sort != Value.WHOLE) {
                return Case.WRONG_SORT;
            }
            if (value.bits[0] < 0 || value.bits[0] > Value.ITEMS) {
                return Case.WRONG_SIZE;
            }
            value.setRow(Value.INTS, (int) value.bits[0]);
            return 0;
        }

        static int last(Value row, Value many) {
            if (!row.isRow() || many.sort != Value.WHOLE) {
                return Case.WRONG_SORT;
            }
            if (many.bits[0] < 0) {
                return Case.WRONG_SIZE;
            }
            if (many.bits[0] > row.size) {
                return Case.NO_INDEX;
            }
            int n = (int) many.bits[0];
            for (int i = 0; i < n; i++) {
                row.bits[i] = row.bits[row.size - n + i];
            }
            row.size = n;
            return 0;
        }

        static int join(Register register, Value row, Value tail) {
            if (!row.isRow() || !tail.isRow()) {
                return Case.WRONG_SORT;
            }
            if (row.size + tail.size > Value.ITEMS) {
                return Case.WRONG_SIZE;
            }
            if (row.sort != tail.sort && !(row.isKin() && tail.isKin())) {
                return Case.NOT_BELONGING;
            }
            for (int i = 0; i < tail.size; i++) {
                if (row.isKin() && !register.belongs(row.sort, tail.bits[i])) {
                    return Case.NOT_BELONGING;
                }
            }
            System.arraycopy(tail.bits, 0, row.bits, row.size, tail.size);
            row.size += tail.size;
            return 0;
        }

        static int with(Register register, Value row, Value index, Value item) {
            if (!row.isRow() || index.sort != Value.WHOLE || !fitsSort(row, item)) {
                return Case.WRONG_SORT;
            }
            if (!row.hasItem(index.bits[0])) {
                return Case.NO_INDEX;
            }
            if (row.isKin() && !register.belongs(row.sort, item.bits[0])) {
                return Case.NOT_BELONGING;
            }
            boolean becomesReal = row.sort == Value.REALS && item.sort == Value.WHOLE;
            long bits = becomesReal ? Real.nearest(item.bits[0]) : item.bits[0];
            row.setBits((int) index.bits[0], bits);
            return 0;
        }

        private static boolean fitsSort(Value row, Value item) {
            if (row.isKin()) {
                return item.sort == Value.PERSON;
            }
            return item.sort == Value.WHOLE || item.sort == Value.REAL && row.sort == Value.REALS;
        }

        static int best(Value row, Value many) {
            if (!row.isRowOfNumbers() || many.sort != Value.WHOLE) {
                return Case.WRONG_SORT;
            }
            if (many.bits[0] < 0) {
                return Case.WRONG_SIZE;
            }
            if (many.bits[0] > row.size) {
                return Case.NO_INDEX;
            }
            boolean isReal = row.sort == Value.REALS;
            long sum = 0;
            for (int i = 0; i < many.bits[0] && i < Value.ITEMS; i++) {
                long item = takeGreatest(row, i);
                if (!isReal && isBeyond('+', sum, item)) {
                    return Case.TOO_GREAT;
                }
                sum = isReal ? Real.plus(sum, item) : sum + item;
            }
            row.setNumber(isReal ? Value.REAL : Value.WHOLE, sum);
            return 0;
        }

        /** Brings the greatest of the items from i on to i. */
        private static long takeGreatest(Value row, int i) {
            boolean isReal = row.sort == Value.REALS;
            int greatest = i;
            for (int k = i + 1; k < row.size; k++) {
                long a = row.bits[greatest];
                long b = row.bits[k];
                if (isReal ? Real.order(b) > Real.order(a) : b > a) {
                    greatest = k;
                }
            }
            long item = row.bits[greatest];
            row.bits[greatest] = row.bits[i];
            row.bits[i] = item;
            return item;
        }
    }

    /**
     * REALS by their bits, as the machine's doubles. Bits, because LANGUAGE.md has no way from a double
     * to its bits and back, none to a not-a-number, and no % or root of doubles.
     */
    private static final class Real {
        static final long SIGN = 0x8000000000000000L, NOT_A_NUMBER = 0x7FF8000000000000L;
        private static final long MAGNITUDE = 0x7FFFFFFFFFFFFFFFL, INFINITE = 0x7FF0000000000000L;
        private static final long FRACTION = 0x000FFFFFFFFFFFFFL, HIDDEN = 0x0010000000000000L;
        private static final long ONE = 0x3FF0000000000000L, HALF = 0x3FE0000000000000L;
        private static final long LEAST_WHOLE = 0x8000000000000000L, GREATEST_WHOLE = 0x7FFFFFFFFFFFFFFFL;
        private static final long REAL_OF_LEAST_WHOLE = 0xC3E0000000000000L;

        static boolean isNot(long x) {
            return (x & MAGNITUDE) > INFINITE;
        }

        /** A WHOLE that lies among others as x among REALS, not-a-number above all, -0 below 0. */
        static long order(long x) {
            return x < 0 ? x ^ MAGNITUDE : x;
        }

        static long orderWithoutSignOfZero(long x) {
            return x == SIGN ? 0 : order(x);
        }

        /** 53 bits, the highest of them set, of a number that is neither 0 nor infinite. */
        private static long mantissa(long x) {
            if ((x & INFINITE) != 0) {
                return x & FRACTION | HIDDEN;
            }
            long mantissa = x & FRACTION;
            for (int i = 0; i < 52 && mantissa < HIDDEN; i++) {
                mantissa <<= 1;
            }
            return mantissa;
        }

        /** The power of two that goes with the mantissa. */
        private static int exponent(long x) {
            int field = (int) ((x & INFINITE) >>> 52);
            if (field != 0) {
                return field - 1075;
            }
            int exponent = -1074;
            for (long rest = x & FRACTION; exponent > -1126 && rest < HIDDEN; rest <<= 1) {
                exponent--;
            }
            return exponent;
        }

        /**
         * mantissa (above 0) times two to the exponent, rounded to the nearest, of two to the even one.
         * Where bits were lost before, the lowest bit is set and the mantissa has 55 bits or more.
         */
        private static long rounded(long sign, int exponent, long mantissa) {
            long m = mantissa;
            int e = exponent;
            for (int by = 32; by > 0; by >>= 1) {
                if (m >>> (63 - by) == 0) {
                    m <<= by;
                    e -= by;
                }
            }
            // the highest bit of m is bit 62 now: 10 bits go, of a number below the normal ones more
            int field = e + 1085;
            if (field >= 2047) {
                return sign | INFINITE;
            }
            int gone = field > 0 ? 10 : 11 - field;
            if (gone > 63) {
                return sign;
            }
            long kept = m >>> gone;
            long lost = m & ((1L << gone) - 1);
            long half = 1L << (gone - 1);
            if (lost > half || lost == half && (kept & 1) != 0) {
                kept++;
            }
            // a carry out of kept goes on into the field of the exponent, up to infinity
            return sign | (field > 0 ? ((long) (field - 1) << 52) + kept : kept);
        }

        static long nearest(long whole) {
            if (whole == 0) {
                return 0;
            }
            if (whole == LEAST_WHOLE) {
                return REAL_OF_LEAST_WHOLE;
            }
            return whole < 0 ? rounded(SIGN, 0, -whole) : rounded(0, 0, whole);
        }

        /** The nearest of a NUMBER with a point; digits and power are both exact, so one rounding is left. */
        static long decimal(long digits, int decimals) {
            long power = 1;
            for (int i = 0; i < decimals; i++) {
                power *= 10;
            }
            return over(nearest(digits), nearest(power));
        }

        static long plus(long x, long y) {
            if (isNot(x) || isNot(y)) {
                return NOT_A_NUMBER;
            }
            boolean isFirstGreater = (x & MAGNITUDE) >= (y & MAGNITUDE);
            long a = isFirstGreater ? x : y;
            long b = isFirstGreater ? y : x;
            boolean isSameSign = (a ^ b) >= 0;
            if ((a & MAGNITUDE) == INFINITE) {
                return (b & MAGNITUDE) == INFINITE && !isSameSign ? NOT_A_NUMBER : a;
            }
            if ((b & MAGNITUDE) == 0) {
                return (a & MAGNITUDE) == 0 && !isSameSign ? 0 : a;
            }
            int gap = exponent(a) - exponent(b);
            long greater = mantissa(a) << 9;
            long less = mantissa(b) << 9;
            if (gap > 62) {
                less = 1;
            } else {
                long lost = less & ((1L << gap) - 1);
                less = less >>> gap | (lost != 0 ? 1 : 0);
            }
            long sum = isSameSign ? greater + less : greater - less;
            return sum == 0 ? 0 : rounded(a & SIGN, exponent(a) - 9, sum);
        }

        static long times(long x, long y) {
            long sign = (x ^ y) & SIGN;
            boolean isZero = (x & MAGNITUDE) == 0 || (y & MAGNITUDE) == 0;
            boolean isInfinite = (x & MAGNITUDE) == INFINITE || (y & MAGNITUDE) == INFINITE;
            if (isNot(x) || isNot(y) || isZero && isInfinite) {
                return NOT_A_NUMBER;
            }
            if (isZero || isInfinite) {
                return isZero ? sign : sign | INFINITE;
            }
            long a = mantissa(x);
            long b = mantissa(y);
            // 106 bits, by halves of 26: high * 2^52 + low
            long mask = (1L << 26) - 1;
            long lowest = (a & mask) * (b & mask);
            long middle = (a >>> 26) * (b & mask) + (a & mask) * (b >>> 26) + (lowest >>> 26);
            long high = (a >>> 26) * (b >>> 26) + (middle >>> 26);
            long low = (middle & mask) << 26 | lowest & mask;
            long lost = low & ((1L << 44) - 1);
            long product = high << 8 | low >>> 44 | (lost != 0 ? 1 : 0);
            return rounded(sign, exponent(x) + exponent(y) + 44, product);
        }

        static long over(long x, long y) {
            long sign = (x ^ y) & SIGN;
            boolean isXZero = (x & MAGNITUDE) == 0;
            boolean isYZero = (y & MAGNITUDE) == 0;
            boolean isXInfinite = (x & MAGNITUDE) == INFINITE;
            boolean isYInfinite = (y & MAGNITUDE) == INFINITE;
            if (isNot(x) || isNot(y) || isXZero && isYZero || isXInfinite && isYInfinite) {
                return NOT_A_NUMBER;
            }
            if (isXZero || isYInfinite) {
                return sign;
            }
            if (isXInfinite || isYZero) {
                return sign | INFINITE;
            }
            long rest = mantissa(x);
            long divisor = mantissa(y);
            long quotient = 0;
            for (int i = 0; i <= 60; i++) {
                quotient <<= 1;
                if (rest >= divisor) {
                    rest -= divisor;
                    quotient |= 1;
                }
                rest <<= 1;
            }
            return rounded(sign, exponent(x) - exponent(y) - 60, quotient | (rest != 0 ? 1 : 0));
        }

        /** What is left of x, with its sign, as the machine's %. */
        static long remainder(long x, long y) {
            if (isNot(x) || isNot(y) || (x & MAGNITUDE) == INFINITE || (y & MAGNITUDE) == 0) {
                return NOT_A_NUMBER;
            }
            if ((x & MAGNITUDE) < (y & MAGNITUDE)) {
                return x;
            }
            long divisor = mantissa(y);
            if (divisor == 0) {
                return NOT_A_NUMBER;
            }
            long rest = mantissa(x) % divisor;
            for (int left = exponent(x) - exponent(y); left > 0; left -= 10) {
                rest = (rest << Math.min(left, 10)) % divisor;
            }
            return rest == 0 ? x & SIGN : rounded(x & SIGN, exponent(y), rest);
        }

        static long root(long x) {
            if (isNot(x) || (x & MAGNITUDE) == 0 || x == INFINITE) {
                return x;
            }
            if (x < 0) {
                return NOT_A_NUMBER;
            }
            boolean isOdd = (exponent(x) & 1) != 0;
            long mantissa = isOdd ? mantissa(x) << 1 : mantissa(x);
            int exponent = isOdd ? exponent(x) - 1 : exponent(x);
            // two bits of the mantissa (54 of them, then zeros) go down for each bit of the root
            long root = 0;
            long rest = 0;
            for (int i = 0; i < 57; i++) {
                long two = i < 27 ? mantissa >>> (52 - 2 * i) & 3 : 0;
                rest = rest << 2 | two;
                long odd = root << 2 | 1;
                root <<= 1;
                if (rest >= odd) {
                    rest -= odd;
                    root |= 1;
                }
            }
            return rounded(0, (exponent - 60) / 2 - 1, root << 1 | (rest != 0 ? 1 : 0));
        }

        /** The power of two of the highest bit. */
        private static int power(long x) {
            return (int) ((x & INFINITE) >>> 52) - 1023;
        }

        /** floor. */
        static long below(long x) {
            int power = power(x);
            if (power >= 52) {
                return x;
            }
            if (power < 0) {
                return x >= 0 || x == SIGN ? x & SIGN : ONE | SIGN;
            }
            long fraction = FRACTION >>> power;
            return x < 0 ? x + fraction & ~fraction : x & ~fraction;
        }

        static long near(long x) {
            int power = power(x);
            if (power >= 52) {
                return x;
            }
            if (power < 0) {
                return (x & MAGNITUDE) > HALF ? x & SIGN | ONE : x & SIGN;
            }
            long fraction = FRACTION >>> power;
            long unit = fraction + 1;
            long half = unit >>> 1;
            long rest = x & fraction;
            boolean isOdd = (x & unit) != 0;
            return (x & ~fraction) + (rest > half || rest == half && isOdd ? unit : 0);
        }

        /** The WHOLE that is left of x without its fraction. */
        static long cutOff(long x) {
            int power = power(x);
            if (isNot(x) || power < 0) {
                return 0;
            }
            if (power >= 63) {
                return x < 0 ? LEAST_WHOLE : GREATEST_WHOLE;
            }
            long mantissa = x & FRACTION | HIDDEN;
            long whole = power > 52 ? mantissa << (power - 52) : mantissa >>> (52 - power);
            return x < 0 ? -whole : whole;
        }
    }
}
