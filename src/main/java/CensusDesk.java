import java.util.Arrays;

/** A reception for census sheets; the document ../shared/DOC.md says what each call answers. */
public final class CensusDesk {
    public static final int NONE = -1, HELD = -2;

    private static final int NO_SUCH_RULE = -3;
    private static final int MISSING = -1;

    // The KINDS of failures, by layers.
    private static final int FOREIGN = 1;
    private static final int EMPTY = 2, BADNAME = 3, BADNUMBER = 4, GREAT = 5, BADSEX = 6, NOTRADE = 7, LOSTSIGN = 8;
    private static final int ODD = 9, FEW = 10, MANY = 11, CHILD = 12, LOSTFIELD = 13;
    private static final int BARE = 14, TOLD = 15, ORDER = 16, TWICE = 17, LOSTLINE = 18;
    private static final int STRAY = 19, SUM = 20, LOSTHOUSE = 21;
    private static final int LAST_KIND = 21, LAST_GROUP = 29;

    private static final int THROW = 0, GATHER = 1, REPLACE = 2, REJECT = 3, STOP = 4;

    // What becomes of a sign, field, line or household behind a failure; 0 and above: it is
    // LOST, and the failure with that index is thrown to the layer above.
    private static final int GOES_ON = -1, LOST = -2;

    // How a reading ended, as receive() and resume() tell it.
    private static final int BOOKED = 0, REJECTED = 1, STOPPED = 2, NOROOM = 3;

    private static final int LINE_FEED = 10, BAR = 124;
    private static final int OF_HOUSEHOLD = 72, OF_PERSON = 80, OF_SUMS = 83;

    // The sorts of fields; NUMBER is that of a household.
    private static final int NAME_FIELD = 1, SEX_FIELD = 2, TRADE_FIELD = 3;
    private static final int NUMBER_FIELD = 4, TOLD_FIELD = 5, AGE_FIELD = 6;

    private final Tape tape;
    private final Rules rules;
    private final Failures log;
    private final Book book;
    private final Reader reader;
    private boolean held;
    private int received, booked, refused, withoutRoom;

    public CensusDesk() {
        tape = new Tape();
        rules = new Rules();
        log = new Failures();
        book = new Book();
        reader = new Reader(tape, rules, log, book);
    }

    public int feed(int a, int b, int c, int d, int e) {
        if (!tape.hasRoomFor(20)) return NONE;
        if (held) return HELD;
        tape.append(a);
        tape.append(b);
        tape.append(c);
        tape.append(d);
        tape.append(e);
        return tape.length;
    }

    public int end(int n) {
        if (n < 0 || n > tape.length) return NONE;
        if (held) return HELD;
        tape.keepFirst(n);
        return n;
    }

    public int rule(int kind, int way, int a) {
        if (kind < 1 || kind > LAST_GROUP) return NO_SUCH_RULE;
        if (way < -1 || way > STOP) return NO_SUCH_RULE;
        if (a < -1 || a > 999999) return NO_SUCH_RULE;
        if (held) return HELD;
        return rules.change(kind, way, a);
    }

    public int receive() {
        if (held) return HELD;
        received++;
        log.forget();
        reader.begin();
        return conclude(reader.readOn());
    }

    public int resume() {
        if (!held) return NONE;
        held = false;
        return conclude(reader.readOn());
    }

    public int drop() {
        if (!held) return NONE;
        held = false;
        refused++;
        return reader.taken;
    }

    public int failures() {
        return log.count;
    }

    public int failure(int i, int what) {
        return log.tell(i, what);
    }

    public int many(int kind) {
        if (kind < 1 || kind > LAST_GROUP) return NONE;
        int found = 0;
        for (int k = 1; k <= LAST_KIND; k++) {
            if (rules.isWithin(k, kind)) found += log.ofKind(k);
        }
        return found;
    }

    public int depth(int i) {
        return log.causesBelow(i);
    }

    public int sheet(int what) {
        switch (what) {
            case 0: return reader.linesRead;
            case 1: return reader.taken;
            case 2: return reader.lost;
            case 3: return reader.personsTaken;
            case 4: return reader.position;
            default: return NONE;
        }
    }

    public int sum(int what) {
        switch (what) {
            case 0: return book.households;
            case 1: return book.persons;
            case 2: return book.men;
            case 3: return book.women;
            case 4: return book.ageSum;
            case 5: return book.agesMissing;
            case 6: return booked;
            case 7: return refused;
            case 8: return withoutRoom;
            default: return NONE;
        }
    }

    public int house(int i, int what) {
        return book.tellHousehold(i, what);
    }

    public int person(int i, int what) {
        return book.tellPerson(i, what);
    }

    public int sign(int i, int k) {
        return book.signOf(i, k);
    }

    public int named(int a, int b, int c, int d) {
        return book.countNamed(a, b, c, d);
    }

    public int audit() {
        int wrong = book.disagreements();
        int accounted = booked + refused + withoutRoom + (held ? 1 : 0);
        return accounted == received ? wrong : wrong + 1;
    }

    private int conclude(int outcome) {
        if (outcome == STOPPED) {
            held = true;
            return STOPPED;
        }
        if (outcome == REJECTED) {
            refused++;
            return REJECTED;
        }
        if (!book.enter(reader.taken, reader.personsTaken, received - 1)) {
            withoutRoom++;
            return NOROOM;
        }
        booked++;
        return BOOKED;
    }

    /** THE TAPE. */
    private static final class Tape {
        static final int MOST = 4000;

        private final byte[] bytes = new byte[MOST];
        private int length;

        boolean hasRoomFor(int more) {
            return length + more <= MOST;
        }

        void append(int word) {
            for (int shift = 24; shift >= 0; shift -= 8) {
                if (length < MOST) {
                    bytes[length] = (byte) (word >>> shift);
                    length++;
                }
            }
        }

        void keepFirst(int n) {
            if (n >= 0 && n <= length) length = n;
        }

        /** -1 where no byte stands. */
        int at(int place) {
            return place >= 0 && place < length ? bytes[place] & 255 : -1;
        }

        int lineEnd(int from) {
            for (int p = from; p < length; p++) {
                if (at(p) == LINE_FEED) return p;
            }
            return length;
        }

        int behindEmptyLines(int from) {
            for (int p = from; p < length; p++) {
                if (at(p) != LINE_FEED) return p;
            }
            return length;
        }
    }

    /** The RULES by KINDS and GROUPS. */
    private static final class Rules {
        /** The GROUP that a KIND or GROUP is in; 0: none. */
        private static final int[] GROUP_OF = {
            0, 24, 22, 22, 23, 23, 25, 25, 25, 26, 26, 26, 26, 26, 27, 27, 27, 27, 27, 28, 28, 28,
            25, 25, 29, 29, 29, 29, 29, 0
        };
        private static final int MOST_NESTED = 5;

        // Row 0 stands for what holds without any rule, and never changes.
        private final int[] way = new int[LAST_GROUP + 1];
        private final int[] number = new int[LAST_GROUP + 1];

        Rules() {
            Arrays.fill(way, -1);
            way[0] = THROW;
        }

        int change(int kind, int newWay, int newNumber) {
            if (kind < 1 || kind > LAST_GROUP) return NO_SUCH_RULE;
            int before = way[kind];
            way[kind] = newWay;
            number[kind] = newNumber;
            return before;
        }

        /** The row whose rule a failure of this kind goes by. */
        int rowFor(int kind) {
            int at = kind;
            for (int step = 0; step < MOST_NESTED; step++) {
                if (at < 1 || at > LAST_GROUP) return 0;
                if (way[at] >= 0) return at;
                at = GROUP_OF[at];
            }
            return 0;
        }

        int wayAt(int row) {
            return row >= 0 && row <= LAST_GROUP ? way[row] : THROW;
        }

        int numberAt(int row) {
            return row >= 0 && row <= LAST_GROUP ? number[row] : 0;
        }

        boolean isWithin(int kind, int group) {
            int at = kind;
            for (int step = 0; step < MOST_NESTED; step++) {
                if (at == group) return true;
                if (at < 1 || at > LAST_GROUP) return false;
                at = GROUP_OF[at];
            }
            return false;
        }
    }

    /** The failures of the latest sheet, in the order in which they came up. */
    private static final class Failures {
        static final int KEPT = 300, FACTS = 5, LAYERS = 5, SHEET_LAYER = 4;
        static final int KIND = 0, PLACE = 1, CAUSE = 2, FIRST = 3, WAY = 4;
        private static final int[] LAYER_OF = {
            0, 0, 1, 1, 1, 1, 1, 1, 1, 2, 2, 2, 2, 2, 3, 3, 3, 3, 3, 4, 4, 4
        };

        private final int[][] facts = new int[FACTS][KEPT];
        private final int[] byKind = new int[LAST_KIND + 1];
        private final int[] firstInHousehold = new int[LAYERS];
        // Holds the layer SHEET too: its scope is the sheet, inside of households and outside.
        private final int[] firstOutside = new int[LAYERS];
        private int count;

        void forget() {
            count = 0;
            Arrays.fill(byKind, 0);
            Arrays.fill(firstOutside, NONE);
            forgetHousehold();
        }

        void forgetHousehold() {
            Arrays.fill(firstInHousehold, NONE);
        }

        int add(int kind, int place, int cause, int way, boolean inHousehold) {
            if (kind < 1 || kind > LAST_KIND) return NONE;
            int layer = LAYER_OF[kind];
            int[] firsts = inHousehold && layer != SHEET_LAYER ? firstInHousehold : firstOutside;
            int index = count;
            if (index < KEPT) {
                facts[KIND][index] = kind;
                facts[PLACE][index] = place;
                facts[CAUSE][index] = cause;
                facts[FIRST][index] = firsts[layer];
                facts[WAY][index] = way;
            }
            if (firsts[layer] == NONE) firsts[layer] = index;
            byKind[kind]++;
            count++;
            return index;
        }

        boolean isKept(int i) {
            return i >= 0 && i < count && i < KEPT;
        }

        int tell(int i, int what) {
            if (!isKept(i) || what < 0 || what >= FACTS) return NONE;
            return facts[what][i];
        }

        int ofKind(int kind) {
            return kind >= 1 && kind <= LAST_KIND ? byKind[kind] : 0;
        }

        int causesBelow(int i) {
            if (!isKept(i)) return NONE;
            int at = i;
            for (int deep = 0; deep < LAYERS; deep++) {
                if (!isKept(at) || facts[CAUSE][at] == NONE) return deep;
                at = facts[CAUSE][at];
            }
            return LAYERS;
        }
    }

    /** Where a LINE and its CELLS stand in THE TAPE. */
    private static final class Line {
        static final int MOST_CELLS = 5;

        private final int[] cellStart = new int[MOST_CELLS];
        private final int[] cellEnd = new int[MOST_CELLS];
        private int start, end, behind, cells, sort;

        void find(Tape tape, int from) {
            start = from;
            end = tape.lineEnd(from);
            behind = end < tape.length ? end + 1 : end;
            sort = tape.at(start);
            cells = 0;
            int cell = start;
            for (int p = start; p <= end; p++) {
                if (p == end || tape.at(p) == BAR) {
                    addCell(cell, p);
                    cell = p + 1;
                }
            }
            for (int k = cells; k < MOST_CELLS; k++) {
                cellStart[k] = end;
                cellEnd[k] = end;
            }
        }

        private void addCell(int from, int to) {
            if (cells < MOST_CELLS) {
                cellStart[cells] = from;
                cellEnd[cells] = to;
            }
            cells++;
        }

        int startOf(int cell) {
            return cell >= 0 && cell < MOST_CELLS ? cellStart[cell] : end;
        }

        int endOf(int cell) {
            return cell >= 0 && cell < MOST_CELLS ? cellEnd[cell] : end;
        }

        boolean isOdd(Tape tape) {
            if (cellsDue() == 0) return true;
            return start + 1 < end && tape.at(start + 1) != BAR;
        }

        /** 0: there is no such sort of LINES. */
        int cellsDue() {
            switch (sort) {
                case OF_HOUSEHOLD: return 3;
                case OF_PERSON: return 5;
                case OF_SUMS: return 2;
                default: return 0;
            }
        }

        int fieldIn(int cell) {
            if (sort == OF_SUMS) return TOLD_FIELD;
            if (sort == OF_HOUSEHOLD) return cell == 1 ? NUMBER_FIELD : TOLD_FIELD;
            switch (cell) {
                case 1: return NAME_FIELD;
                case 2: return SEX_FIELD;
                case 3: return AGE_FIELD;
                default: return TRADE_FIELD;
            }
        }
    }

    /** The signs of one cell, and what they are as a field. */
    private static final class Signs {
        static final int MOST_OF_NAME = 30, MOST_DIGITS = 6;
        // No field is told by more: the 31st sign of a name fails for being there.
        private static final int KEPT = 31;

        private final int[] signs = new int[KEPT];
        private final int[] places = new int[KEPT];
        private int count;

        void clear() {
            count = 0;
        }

        void add(int sign, int place) {
            if (count < KEPT) {
                signs[count] = sign;
                places[count] = place;
                count++;
            }
        }

        int at(int k) {
            return k >= 0 && k < count && k < KEPT ? signs[k] : -1;
        }

        int placeOf(int k) {
            return k >= 0 && k < count && k < KEPT ? places[k] : NONE;
        }

        /** The KIND of what is wrong with the signs as such a field; 0: nothing. */
        int faultAs(int field) {
            switch (field) {
                case NAME_FIELD:
                    if (count == 0) return EMPTY;
                    return firstBadOfName() < 0 ? 0 : BADNAME;
                case SEX_FIELD:
                    return count == 1 && (at(0) == 'm' || at(0) == 'f') ? 0 : BADSEX;
                case TRADE_FIELD:
                    return count == 0 || count == 1 && digits() == 1 ? 0 : NOTRADE;
                default:
                    if (count == 0 || count > MOST_DIGITS || digits() < count) return BADNUMBER;
                    return number() > mostOf(field) ? GREAT : 0;
            }
        }

        int valueAs(int field) {
            if (field == SEX_FIELD) return at(0) == 'm' ? 0 : 1;
            return number();
        }

        private static int mostOf(int field) {
            if (field == NUMBER_FIELD) return 9999;
            return field == TOLD_FIELD ? 99 : 120;
        }

        /** -1: there is none. */
        int firstBadOfName() {
            for (int k = 0; k < count; k++) {
                if (k >= MOST_OF_NAME || !isOfNames(at(k))) return k;
            }
            return -1;
        }

        private static boolean isOfNames(int sign) {
            return sign >= 'a' && sign <= 'z' || sign >= 'A' && sign <= 'Z' || sign == ' ' || sign == '-';
        }

        /** How many digits stand ahead of the first sign that is none, at most six. */
        private int digits() {
            int found = 0;
            for (int k = 0; k < count && k < MOST_DIGITS; k++) {
                if (at(k) < '0' || at(k) > '9') return found;
                found++;
            }
            return found;
        }

        /** The number that those digits make. */
        int number() {
            int made = 0;
            for (int k = 0; k < count && k < MOST_DIGITS; k++) {
                if (at(k) < '0' || at(k) > '9') return made;
                made = made * 10 + (at(k) - '0');
            }
            return made;
        }
    }

    /** The HOUSEHOLD that is read, with the persons that were taken into it. */
    private static final class Household {
        // The shortest LINE of a person has one byte, and its byte 10.
        private static final int MOST_PERSONS = Tape.MOST / 2;

        private final int[] sex = new int[MOST_PERSONS];
        private final int[] age = new int[MOST_PERSONS];
        private final int[] trade = new int[MOST_PERSONS];
        private final int[] nameStart = new int[MOST_PERSONS];
        private final int[] nameLength = new int[MOST_PERSONS];
        // A name's signs are bytes of THE TAPE, so all names together are no longer than it.
        private final byte[] names = new byte[Tape.MOST];
        private boolean open, lost;
        private int start, number, told, persons, nameEnd;

        void begin(int place) {
            open = true;
            lost = false;
            start = place;
            number = MISSING;
            told = MISSING;
            persons = 0;
            nameEnd = 0;
        }

        /** The newcomer stands behind those that were taken, and is no person of it yet. */
        void forgetNewcomer() {
            if (persons >= MOST_PERSONS) return;
            nameStart[persons] = nameEnd;
            nameLength[persons] = 0;
        }

        void nameNewcomer(Signs signs) {
            if (persons >= MOST_PERSONS) return;
            for (int k = 0; k < signs.count && k < Signs.MOST_OF_NAME && nameEnd + k < Tape.MOST; k++) {
                names[nameEnd + k] = (byte) signs.at(k);
                nameLength[persons] = k + 1;
            }
        }

        void describeNewcomer(int itsSex, int itsAge, int itsTrade) {
            if (persons >= MOST_PERSONS) return;
            sex[persons] = itsSex;
            age[persons] = itsAge;
            trade[persons] = itsTrade;
        }

        boolean hasLikeOfNewcomer() {
            if (persons >= MOST_PERSONS) return false;
            if (nameLength[persons] == 0 || age[persons] == MISSING) return false;
            for (int i = 0; i < persons; i++) {
                if (age[i] == age[persons] && hasNewcomersName(i)) return true;
            }
            return false;
        }

        private boolean hasNewcomersName(int i) {
            if (nameLength[i] != nameLength[persons]) return false;
            for (int k = 0; k < nameLength[i]; k++) {
                if (signOf(i, k) != signOf(persons, k)) return false;
            }
            return true;
        }

        void takeNewcomer() {
            if (persons >= MOST_PERSONS) return;
            nameEnd += nameLength[persons];
            persons++;
        }

        int signOf(int i, int k) {
            if (i < 0 || i >= MOST_PERSONS || k < 0 || k >= nameLength[i]) return 0;
            int at = nameStart[i] + k;
            return at >= 0 && at < Tape.MOST ? names[at] & 255 : 0;
        }
    }

    /**
     * What is booked. Households that were TAKEN from a sheet are written behind what is booked,
     * so that booking them is a matter of counting them in, and giving them up of not doing so.
     */
    private static final class Book {
        private static final int MOST_HOUSEHOLDS = 60, MOST_PERSONS = 300, FACTS = 5;
        private static final int NUMBER = 0, TOLD_PERSONS = 1, SIZE = 2, FIRST_PERSON = 3, OF_SHEET = 4;
        private static final int SEX = 0, AGE = 1, TRADE = 2, NAME_LENGTH = 3, HOUSEHOLD = 4;
        private static final int MOST_SOUGHT = 16;

        private final int[][] householdFacts = new int[FACTS][MOST_HOUSEHOLDS];
        private final int[][] personFacts = new int[FACTS][MOST_PERSONS];
        private final byte[] names = new byte[MOST_PERSONS * Signs.MOST_OF_NAME];
        private final int[] sought = new int[MOST_SOUGHT];
        private int households, persons, men, women, ageSum, agesMissing;

        /** Does nothing without room: enter() refuses the whole sheet then. */
        void write(Household from, int takenAhead, int personsAhead) {
            int row = households + takenAhead;
            int firstPerson = persons + personsAhead;
            if (row < 0 || row >= MOST_HOUSEHOLDS) return;
            if (firstPerson < 0 || firstPerson + from.persons > MOST_PERSONS) return;
            householdFacts[NUMBER][row] = from.number;
            householdFacts[TOLD_PERSONS][row] = from.told;
            householdFacts[SIZE][row] = from.persons;
            householdFacts[FIRST_PERSON][row] = firstPerson;
            for (int i = 0; i < from.persons && i < Household.MOST_PERSONS; i++) {
                writePerson(from, i, firstPerson + i, row);
            }
        }

        private void writePerson(Household from, int i, int row, int household) {
            if (row < 0 || row >= MOST_PERSONS) return;
            personFacts[SEX][row] = from.sex[i];
            personFacts[AGE][row] = from.age[i];
            personFacts[TRADE][row] = from.trade[i];
            personFacts[NAME_LENGTH][row] = from.nameLength[i];
            personFacts[HOUSEHOLD][row] = household;
            for (int k = 0; k < from.nameLength[i] && k < Signs.MOST_OF_NAME; k++) {
                names[row * Signs.MOST_OF_NAME + k] = (byte) from.signOf(i, k);
            }
        }

        /** Books what was written, whole or not at all. */
        boolean enter(int newHouseholds, int newPersons, int sheet) {
            if (newHouseholds > MOST_HOUSEHOLDS - households) return false;
            if (newPersons > MOST_PERSONS - persons) return false;
            for (int n = 0; n < newHouseholds && households < MOST_HOUSEHOLDS; n++) {
                householdFacts[OF_SHEET][households] = sheet;
                households++;
            }
            for (int n = 0; n < newPersons && persons < MOST_PERSONS; n++) {
                countIn(personFacts[SEX][persons], personFacts[AGE][persons]);
                persons++;
            }
            return true;
        }

        private void countIn(int sex, int age) {
            if (sex == 0) men++;
            if (sex == 1) women++;
            if (age == MISSING) agesMissing++;
            else ageSum += age;
        }

        int tellHousehold(int i, int what) {
            if (i < 0 || i >= households || i >= MOST_HOUSEHOLDS) return NONE;
            return what >= 0 && what < FACTS ? householdFacts[what][i] : NONE;
        }

        int tellPerson(int i, int what) {
            if (i < 0 || i >= persons || i >= MOST_PERSONS) return NONE;
            return what >= 0 && what < FACTS ? personFacts[what][i] : NONE;
        }

        int signOf(int i, int k) {
            if (k < 0 || k >= Signs.MOST_OF_NAME || k >= tellPerson(i, NAME_LENGTH)) return 0;
            return names[i * Signs.MOST_OF_NAME + k] & 255;
        }

        int countNamed(int a, int b, int c, int d) {
            seek(0, a);
            seek(4, b);
            seek(8, c);
            seek(12, d);
            int length = soughtLength();
            if (length == 0) return 0;
            int found = 0;
            for (int i = 0; i < persons; i++) {
                if (tellPerson(i, NAME_LENGTH) == length && beginsAsSought(i, length)) found++;
            }
            return found;
        }

        private void seek(int from, int word) {
            for (int k = 0; k < 4; k++) {
                int at = from + k;
                if (at >= 0 && at < MOST_SOUGHT) sought[at] = (word >>> (24 - 8 * k)) & 255;
            }
        }

        private int soughtLength() {
            for (int k = 0; k < MOST_SOUGHT; k++) {
                if (sought[k] == 0) return k;
            }
            return MOST_SOUGHT;
        }

        private boolean beginsAsSought(int i, int length) {
            for (int k = 0; k < length && k < MOST_SOUGHT; k++) {
                if (signOf(i, k) != sought[k]) return false;
            }
            return true;
        }

        int disagreements() {
            int inHouseholds = 0;
            for (int i = 0; i < households; i++) inHouseholds += tellHousehold(i, SIZE);
            int withoutSex = 0;
            int ages = 0;
            for (int i = 0; i < persons; i++) {
                if (tellPerson(i, SEX) == MISSING) withoutSex++;
                if (tellPerson(i, AGE) != MISSING) ages += tellPerson(i, AGE);
            }
            int wrong = 0;
            if (inHouseholds != persons) wrong++;
            if (men + women + withoutSex != persons) wrong++;
            if (ages != ageSum) wrong++;
            return wrong;
        }
    }

    /** Reads THE TAPE as a SHEET, line by line, so that it can stop and go on behind any of them. */
    private static final class Reader {
        private final Tape tape;
        private final Rules rules;
        private final Failures log;
        private final Book book;
        private final Line line = new Line();
        private final Signs signs = new Signs();
        private final Household household = new Household();
        // The fields of the line that is read, by their cells; a name stands in the household.
        private final int[] values = new int[Line.MOST_CELLS];
        private int linesRead, taken, lost, personsTaken, position;
        private int latestNumber;
        private boolean rejected, stopNow, stopBehindHousehold;
        // The rule that the latest failure went by.
        private int way, number;

        Reader(Tape itsTape, Rules itsRules, Failures itsLog, Book itsBook) {
            tape = itsTape;
            rules = itsRules;
            log = itsLog;
            book = itsBook;
        }

        void begin() {
            linesRead = 0;
            taken = 0;
            lost = 0;
            personsTaken = 0;
            position = 0;
            latestNumber = MISSING;
            rejected = false;
            stopNow = false;
            stopBehindHousehold = false;
            household.open = false;
        }

        /** BOOKED here means that the end was come to: if there is room is not asked yet. */
        int readOn() {
            // A step reads a line, or closes a household, which has a line of its own.
            for (int step = 0; step <= 2 * Tape.MOST; step++) {
                position = tape.behindEmptyLines(position);
                if (household.open && isHouseholdsEnd()) closeHousehold();
                else if (position >= tape.length) return BOOKED;
                else if (findNextLine()) placeLine(readLine());
                if (rejected) return REJECTED;
                if (stopNow) {
                    stopNow = false;
                    return STOPPED;
                }
            }
            return BOOKED;
        }

        private boolean isHouseholdsEnd() {
            int next = tape.at(position);
            return next < 0 || next == OF_HOUSEHOLD || next == OF_SUMS;
        }

        /** False: it is one of those that are passed over. */
        private boolean findNextLine() {
            line.find(tape, position);
            position = line.behind;
            if (line.sort == OF_HOUSEHOLD) {
                household.begin(line.start);
                log.forgetHousehold();
            }
            if (household.open && household.lost) return false;
            household.forgetNewcomer();
            linesRead++;
            return true;
        }

        /** The fate of the LINE. */
        private int readLine() {
            int fate = readForm();
            int due = line.cellsDue();
            for (int cell = 1; cell < due && cell < Line.MOST_CELLS && fate == GOES_ON; cell++) {
                values[cell] = MISSING;
                int fateOfField = readSigns(cell);
                if (fateOfField == GOES_ON) fateOfField = readValue(cell);
                if (fateOfField >= 0) fate = fail(LOSTFIELD, line.start, fateOfField);
            }
            if (fate == GOES_ON && isWorkingChild()) fate = fail(CHILD, line.start, NONE);
            return fate;
        }

        private int readForm() {
            if (line.isOdd(tape)) {
                int fate = fail(ODD, line.start, NONE);
                return fate == GOES_ON ? LOST : fate;
            }
            if (!household.open && line.sort == OF_PERSON) {
                fail(STRAY, line.start, NONE);
                return LOST;
            }
            int due = line.cellsDue();
            if (line.cells < due) return fail(FEW, line.start, NONE);
            if (line.cells > due) return fail(MANY, line.start, NONE);
            return GOES_ON;
        }

        private boolean isWorkingChild() {
            if (line.sort != OF_PERSON) return false;
            int age = values[3];
            int trade = values[4];
            return age != MISSING && age < 10 && trade != MISSING && trade > 0;
        }

        /** The fate of the field. */
        private int readSigns(int cell) {
            signs.clear();
            int start = line.startOf(cell);
            int end = line.endOf(cell);
            int fate = GOES_ON;
            for (int p = start; p < end && fate == GOES_ON; p++) {
                int fateOfSign = readSign(p);
                if (fateOfSign >= 0) fate = fail(LOSTSIGN, start, fateOfSign);
            }
            return fate;
        }

        /** The fate of the sign. */
        private int readSign(int place) {
            int sign = tape.at(place);
            int fate = GOES_ON;
            if (!isOwn(sign)) {
                fate = fail(FOREIGN, place, NONE);
                if (way == REPLACE) sign = isOwn(number) ? number : '?';
            }
            if (fate == GOES_ON) signs.add(sign, place);
            return fate;
        }

        private static boolean isOwn(int sign) {
            return sign >= 32 && sign <= 126;
        }

        /** The fate of the field. */
        private int readValue(int cell) {
            if (cell < 0 || cell >= Line.MOST_CELLS) return GOES_ON;
            int field = line.fieldIn(cell);
            int fault = signs.faultAs(field);
            int fate = GOES_ON;
            if (fault != 0) {
                int place = fault == BADNAME ? signs.placeOf(signs.firstBadOfName()) : line.startOf(cell);
                fate = fail(fault, place, NONE);
            }
            if (fate != GOES_ON) return fate;
            if (field == NAME_FIELD) household.nameNewcomer(signs);
            else values[cell] = fault == 0 ? signs.valueAs(field) : mended(fault);
            return GOES_ON;
        }

        private int mended(int fault) {
            if (fault == BADSEX) return way == REPLACE && (number == 0 || number == 1) ? number : MISSING;
            if (way == REPLACE) return number;
            return fault == NOTRADE ? MISSING : signs.number();
        }

        private void placeLine(int fate) {
            if (!household.open) {
                settleOutside(fate);
            } else if (fate >= 0) {
                loseHousehold(fail(LOSTLINE, line.start, fate));
            } else if (fate == GOES_ON && line.sort == OF_HOUSEHOLD) {
                household.number = values[1];
                household.told = values[2];
            } else if (fate == GOES_ON) {
                takePerson();
            }
        }

        private void takePerson() {
            household.describeNewcomer(values[2], values[3], values[4]);
            int fate = GOES_ON;
            if (household.hasLikeOfNewcomer()) fate = fail(TWICE, line.start, NONE);
            if (fate == GOES_ON) household.takeNewcomer();
            if (fate >= 0) loseHousehold(fail(LOSTLINE, line.start, fate));
        }

        /** Nothing is lost by the fate GOES_ON. */
        private void loseHousehold(int fate) {
            if (fate == GOES_ON) return;
            household.lost = true;
            lost++;
            if (fate >= 0) fail(LOSTHOUSE, household.start, fate);
        }

        private void settleOutside(int fate) {
            if (fate >= 0) fail(LOSTHOUSE, line.start, fate);
            if (fate != GOES_ON) return;
            if (values[1] != MISSING && values[1] != taken) fail(SUM, line.start, NONE);
        }

        private void closeHousehold() {
            if (!household.lost) askOfHousehold();
            if (!household.lost) takeHousehold();
            household.open = false;
            if (stopBehindHousehold) stopNow = true;
            stopBehindHousehold = false;
        }

        private void askOfHousehold() {
            int start = household.start;
            int told = household.told;
            if (household.persons == 0) loseHousehold(fail(BARE, start, NONE));
            if (household.lost) return;
            if (told != MISSING && told != household.persons) loseHousehold(fail(TOLD, start, NONE));
            if (household.lost) return;
            boolean isKnown = household.number != MISSING && latestNumber != MISSING;
            if (isKnown && household.number <= latestNumber) loseHousehold(fail(ORDER, start, NONE));
        }

        private void takeHousehold() {
            book.write(household, taken, personsTaken);
            taken++;
            personsTaken += household.persons;
            if (household.number != MISSING) latestNumber = household.number;
        }

        /** A failure comes up: what becomes of that which failed. */
        private int fail(int kind, int place, int cause) {
            int row = rules.rowFor(kind);
            way = rules.wayAt(row);
            number = rules.numberAt(row);
            int index = log.add(kind, place, cause, way, household.open);
            if (way == STOP) stop(kind);
            if (kind >= STRAY && (way == THROW || way == REJECT)) rejected = true;
            if (way == GATHER || way == REPLACE) return GOES_ON;
            return way == THROW ? index : LOST;
        }

        private void stop(int kind) {
            // BARE, TOLD, ORDER come up where the household ends: behind it is at once, too.
            if (!household.open || kind >= STRAY) stopNow = true;
            else stopBehindHousehold = true;
        }
    }
}
