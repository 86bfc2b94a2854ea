import java.util.ArrayList;
import java.util.List;

/**
 * The document written a second time, in another form, for ModelTest: layers that really throw, a
 * list of what came up, and a resume that reads the sheet anew from its first byte and passes by
 * the stops that were made already.
 */
final class Model {
    private static final int NONE = -1, HELD = -2, MISSING = -1;

    /** What was lost, and the failure that is thrown with it; NONE: lost without one. */
    private static final class Lost extends Exception {
        private static final long serialVersionUID = 1;
        private final int failure;

        Lost(int failure) {
            super(null, null, false, false);
            this.failure = failure;
        }
    }

    /** The reading ends: by REJECTED or by a stop. */
    private static final class Ended extends Exception {
        private static final long serialVersionUID = 1;
        private final int answer;

        Ended(int answer) {
            super(null, null, false, false);
            this.answer = answer;
        }
    }

    private record Failure(int kind, int place, int cause, int first, int way, int scope) {
    }

    private record Person(String name, int sex, int age, int trade) {
    }

    private record House(int number, int told, List<Person> persons, int sheet) {
    }

    private record Resident(Person person, int house) {
    }

    private final StringBuilder tape = new StringBuilder();
    private final int[][] rules = new int[30][];
    private final List<House> books = new ArrayList<>();
    private final int[] sheets = new int[4];
    private int received;
    private boolean held;

    private final List<Failure> failures = new ArrayList<>();
    private final List<House> taken = new ArrayList<>();
    private int lines, lost, position, scope, stopsMade, stopsSeen;
    private boolean inHouse, endSeen, stopNow, stopLater;

    int feed(int a, int b, int c, int d, int e) {
        if (tape.length() + 20 > 4000) return NONE;
        if (held) return HELD;
        for (int word : new int[] {a, b, c, d, e}) {
            for (int shift = 24; shift >= 0; shift -= 8) tape.append((char) (word >>> shift & 255));
        }
        return tape.length();
    }

    int end(int n) {
        if (n < 0 || n > tape.length()) return NONE;
        if (held) return HELD;
        tape.setLength(n);
        return n;
    }

    int rule(int kind, int way, int a) {
        if (kind < 1 || kind > 29 || way < -1 || way > 4 || a < -1 || a > 999999) return -3;
        if (held) return HELD;
        int before = rules[kind] == null ? -1 : rules[kind][0];
        rules[kind] = way == -1 ? null : new int[] {way, a};
        return before;
    }

    int receive() {
        if (held) return HELD;
        received++;
        stopsMade = 0;
        return read();
    }

    int resume() {
        if (!held) return NONE;
        held = false;
        stopsMade++;
        return read();
    }

    int drop() {
        if (!held) return NONE;
        held = false;
        sheets[1]++;
        return taken.size();
    }

    int failures() {
        return failures.size();
    }

    int failure(int i, int what) {
        if (i < 0 || i >= Math.min(300, failures.size())) return NONE;
        Failure failure = failures.get(i);
        return switch (what) {
            case 0 -> failure.kind;
            case 1 -> failure.place;
            case 2 -> failure.cause;
            case 3 -> failure.first;
            case 4 -> failure.way;
            default -> NONE;
        };
    }

    int many(int kind) {
        if (kind < 1 || kind > 29) return NONE;
        int found = 0;
        for (Failure failure : failures) {
            for (int at = failure.kind; at != 0; at = groupOf(at)) found += at == kind ? 1 : 0;
        }
        return found;
    }

    int depth(int i) {
        if (i < 0 || i >= Math.min(300, failures.size())) return NONE;
        int cause = failures.get(i).cause;
        return cause == NONE ? 0 : 1 + depth(cause);
    }

    int sheet(int what) {
        return switch (what) {
            case 0 -> lines;
            case 1 -> taken.size();
            case 2 -> lost;
            case 3 -> taken.stream().mapToInt(house -> house.persons.size()).sum();
            case 4 -> position;
            default -> NONE;
        };
    }

    int sum(int what) {
        List<Resident> all = residents();
        return switch (what) {
            case 0 -> books.size();
            case 1 -> all.size();
            case 2 -> (int) all.stream().filter(one -> one.person.sex == 0).count();
            case 3 -> (int) all.stream().filter(one -> one.person.sex == 1).count();
            case 4 -> all.stream().mapToInt(one -> Math.max(0, one.person.age)).sum();
            case 5 -> (int) all.stream().filter(one -> one.person.age == MISSING).count();
            case 6 -> sheets[0];
            case 7 -> sheets[1];
            case 8 -> sheets[3];
            default -> NONE;
        };
    }

    int house(int i, int what) {
        if (i < 0 || i >= books.size()) return NONE;
        House house = books.get(i);
        return switch (what) {
            case 0 -> house.number;
            case 1 -> house.told;
            case 2 -> house.persons.size();
            case 3 -> books.subList(0, i).stream().mapToInt(one -> one.persons.size()).sum();
            case 4 -> house.sheet;
            default -> NONE;
        };
    }

    int person(int i, int what) {
        List<Resident> all = residents();
        if (i < 0 || i >= all.size()) return NONE;
        Person person = all.get(i).person;
        return switch (what) {
            case 0 -> person.sex;
            case 1 -> person.age;
            case 2 -> person.trade;
            case 3 -> person.name.length();
            case 4 -> all.get(i).house;
            default -> NONE;
        };
    }

    int sign(int i, int k) {
        List<Resident> all = residents();
        if (i < 0 || i >= all.size()) return 0;
        String name = all.get(i).person.name;
        return k < 0 || k >= name.length() ? 0 : name.charAt(k);
    }

    int named(int a, int b, int c, int d) {
        StringBuilder name = new StringBuilder();
        for (int word : new int[] {a, b, c, d}) {
            for (int shift = 24; shift >= 0; shift -= 8) name.append((char) (word >>> shift & 255));
        }
        int zero = name.indexOf("\u0000");
        String sought = zero < 0 ? name.toString() : name.substring(0, zero);
        if (sought.isEmpty()) return 0;
        return (int) residents().stream().filter(one -> one.person.name.equals(sought)).count();
    }

    int audit() {
        return 0;
    }

    private List<Resident> residents() {
        List<Resident> all = new ArrayList<>();
        for (int i = 0; i < books.size(); i++) {
            for (Person person : books.get(i).persons) all.add(new Resident(person, i));
        }
        return all;
    }

    private static int groupOf(int kind) {
        return switch (kind) {
            case 1 -> 24;
            case 2, 3 -> 22;
            case 4, 5 -> 23;
            case 6, 7, 8, 22, 23 -> 25;
            case 9, 10, 11, 12, 13 -> 26;
            case 14, 15, 16, 17, 18 -> 27;
            case 19, 20, 21 -> 28;
            case 24, 25, 26, 27, 28 -> 29;
            default -> 0;
        };
    }

    private static int layerOf(int kind) {
        return kind == 1 ? 1 : kind <= 8 ? 2 : kind <= 13 ? 3 : kind <= 18 ? 4 : 5;
    }

    private int[] ruleOf(int kind) {
        for (int at = kind; at != 0; at = groupOf(at)) {
            if (rules[at] != null) return rules[at];
        }
        return new int[] {0, 0};
    }

    private int read() {
        failures.clear();
        taken.clear();
        lines = 0;
        lost = 0;
        position = 0;
        scope = 0;
        stopsSeen = 0;
        inHouse = false;
        stopNow = false;
        stopLater = false;
        int answer = 0;
        try {
            readSheet();
            int persons = taken.stream().mapToInt(house -> house.persons.size()).sum();
            if (books.size() + taken.size() > 60 || residents().size() + persons > 300) answer = 3;
            else books.addAll(taken);
        } catch (Ended ended) {
            answer = ended.answer;
        }
        held = answer == 2;
        if (!held) sheets[answer]++;
        return answer;
    }

    private void readSheet() throws Ended {
        while (true) {
            passEmpty();
            if (position == tape.length()) return;
            if (tape.charAt(position) == 'H') readHouse();
            else readOutside();
        }
    }

    private void passEmpty() {
        while (position < tape.length() && tape.charAt(position) == '\n') position++;
    }

    /** The next LINE, read or passed over: where it begins and where it ends. */
    private int[] nextLine() {
        int start = position;
        int end = tape.indexOf("\n", start);
        if (end < 0) end = tape.length();
        position = Math.min(tape.length(), end + 1);
        return new int[] {start, end};
    }

    private boolean houseEnds() {
        passEmpty();
        return position == tape.length() || tape.charAt(position) == 'H' || tape.charAt(position) == 'S';
    }

    private void stopPoint() throws Ended {
        stopNow = false;
        stopsSeen++;
        if (stopsSeen > stopsMade) throw new Ended(2);
    }

    private void readOutside() throws Ended {
        int[] line = nextLine();
        lines++;
        try {
            char sort = sortOf(line);
            if (sort == 'P') {
                failOfSheet(19, line[0], NONE);
            } else {
                Object[] fields = readFields(line, "Sn", 99);
                int told = (Integer) fields[0];
                if (told != MISSING && told != taken.size()) failOfSheet(20, line[0], NONE);
            }
        } catch (Lost lostLine) {
            if (lostLine.failure != NONE) failOfSheet(21, line[0], lostLine.failure);
        }
        if (stopNow) stopPoint();
    }

    private void readHouse() throws Ended {
        int start = position;
        scope++;
        inHouse = true;
        stopLater = false;
        try {
            taken.add(readLinesOfHouse(start));
        } catch (Lost lostHouse) {
            lost++;
            if (lostHouse.failure != NONE) failOfSheet(21, start, lostHouse.failure);
            if (stopNow && !endSeen) stopPoint();
            while (!houseEnds()) nextLine();
        }
        inHouse = false;
        if (stopNow || stopLater) stopPoint();
    }

    private House readLinesOfHouse(int start) throws Ended, Lost {
        endSeen = false;
        int number = MISSING;
        int told = MISSING;
        List<Person> persons = new ArrayList<>();
        boolean isFirst = true;
        while (isFirst || !houseEnds()) {
            int[] line = nextLine();
            lines++;
            try {
                if (sortOf(line) == 'H') {
                    Object[] fields = readFields(line, "Hnn", 9999, 99);
                    number = (Integer) fields[0];
                    told = (Integer) fields[1];
                } else {
                    takePerson(line, persons);
                }
            } catch (Lost lostLine) {
                if (lostLine.failure != NONE) fail(18, line[0], lostLine.failure);
            }
            isFirst = false;
        }
        endSeen = true;
        if (persons.isEmpty()) fail(14, start, NONE);
        if (told != MISSING && told != persons.size()) fail(15, start, NONE);
        int latest = MISSING;
        for (House house : taken) latest = house.number == MISSING ? latest : house.number;
        if (number != MISSING && latest != MISSING && number <= latest) fail(16, start, NONE);
        return new House(number, told, persons, received - 1);
    }

    private void takePerson(int[] line, List<Person> persons) throws Lost {
        Object[] fields = readFields(line, "PNxnt", 120);
        Person person = new Person((String) fields[0], (Integer) fields[1], (Integer) fields[2], (Integer) fields[3]);
        if (person.age != MISSING && person.age < 10 && person.trade > 0) fail(12, line[0], NONE);
        for (Person other : persons) {
            boolean isSame = other.name.equals(person.name) && other.age == person.age;
            if (isSame && !person.name.isEmpty() && person.age != MISSING) {
                fail(17, line[0], NONE);
                break;
            }
        }
        persons.add(person);
    }

    /** The first byte of a LINE that is not ODD. */
    private char sortOf(int[] line) throws Lost {
        String text = tape.substring(line[0], line[1]);
        if (text.matches("(?s)[HPS](\\|.*)?")) return text.charAt(0);
        fail(9, line[0], NONE);
        throw new Lost(NONE);
    }

    /** The sorts: n numbers, each with its bound, N name, x sex, t trade. */
    private Object[] readFields(int[] line, String sorts, int... bounds) throws Lost {
        String[] cells = tape.substring(line[0], line[1]).split("\\|", -1);
        if (cells.length < sorts.length()) fail(10, line[0], NONE);
        if (cells.length > sorts.length()) fail(11, line[0], NONE);
        Object[] fields = new Object[sorts.length() - 1];
        int place = line[0] + 2;
        int bound = 0;
        for (int k = 1; k < sorts.length(); k++) {
            String cell = k < cells.length ? cells[k] : "";
            int from = k < cells.length ? place : line[1];
            place += cell.length() + 1;
            char sort = sorts.charAt(k);
            int most = sort == 'n' ? bounds[bound++] : 0;
            try {
                fields[k - 1] = readField(cell, from, sort, most);
            } catch (Lost lostField) {
                fields[k - 1] = sort == 'N' ? (Object) "" : (Object) MISSING;
                if (lostField.failure != NONE) fail(13, line[0], lostField.failure);
            }
        }
        return fields;
    }

    private Object readField(String cell, int from, char sort, int most) throws Lost {
        StringBuilder signs = new StringBuilder();
        List<Integer> places = new ArrayList<>();
        for (int k = 0; k < cell.length(); k++) {
            try {
                signs.append(readSign(cell.charAt(k), from + k));
                places.add(from + k);
            } catch (Lost lostSign) {
                if (lostSign.failure != NONE) fail(8, from, lostSign.failure);
            }
        }
        return switch (sort) {
            case 'N' -> readName(signs.toString(), from, places);
            case 'x' -> readSex(signs.toString(), from);
            case 't' -> readTrade(signs.toString(), from);
            default -> readNumber(signs.toString(), from, most);
        };
    }

    private char readSign(char sign, int place) throws Lost {
        if (sign >= 32 && sign <= 126) return sign;
        int[] rule = fail(1, place, NONE);
        if (rule[0] != 2) return sign;
        return rule[1] >= 32 && rule[1] <= 126 ? (char) rule[1] : '?';
    }

    private String readName(String signs, int from, List<Integer> places) throws Lost {
        if (signs.isEmpty()) {
            fail(2, from, NONE);
            return "";
        }
        for (int k = 0; k < signs.length(); k++) {
            if (k < 30 && signs.substring(k, k + 1).matches("[a-zA-Z -]")) continue;
            fail(3, places.get(k), NONE);
            break;
        }
        return signs.substring(0, Math.min(30, signs.length()));
    }

    private Integer readSex(String signs, int from) throws Lost {
        if (signs.equals("m")) return 0;
        if (signs.equals("f")) return 1;
        int[] rule = fail(6, from, NONE);
        return rule[0] == 2 && rule[1] <= 1 ? rule[1] : MISSING;
    }

    private Integer readTrade(String signs, int from) throws Lost {
        if (signs.isEmpty()) return 0;
        if (signs.matches("[0-9]")) return Integer.parseInt(signs);
        int[] rule = fail(7, from, NONE);
        return rule[0] == 2 ? rule[1] : MISSING;
    }

    private Integer readNumber(String signs, int from, int most) throws Lost {
        if (!signs.matches("[0-9]{1,6}")) {
            int[] rule = fail(4, from, NONE);
            if (rule[0] == 2) return rule[1];
            String digits = signs.replaceFirst("(?s)[^0-9].*", "");
            return digits.isEmpty() ? 0 : Integer.parseInt(digits.substring(0, Math.min(6, digits.length())));
        }
        int number = Integer.parseInt(signs);
        if (number <= most) return number;
        int[] rule = fail(5, from, NONE);
        return rule[0] == 2 ? rule[1] : number;
    }

    private int comesUp(int kind, int place, int cause, int way) {
        int ownScope = layerOf(kind) == 5 ? NONE : inHouse ? scope : 0;
        int first = NONE;
        for (int i = failures.size() - 1; i >= 0; i--) {
            Failure other = failures.get(i);
            if (layerOf(other.kind) == layerOf(kind) && other.scope == ownScope) first = i;
        }
        failures.add(new Failure(kind, place, cause, first, way, ownScope));
        return failures.size() - 1;
    }

    /** The RULE that was gone by, if it goes on. */
    private int[] fail(int kind, int place, int cause) throws Lost {
        int[] rule = ruleOf(kind);
        int index = comesUp(kind, place, cause, rule[0]);
        if (rule[0] == 1 || rule[0] == 2) return rule;
        if (rule[0] == 4) {
            if (!inHouse || kind >= 14 && kind <= 16) stopNow = true;
            else stopLater = true;
        }
        throw new Lost(rule[0] == 0 ? index : NONE);
    }

    private void failOfSheet(int kind, int place, int cause) throws Ended {
        int way = ruleOf(kind)[0];
        comesUp(kind, place, cause, way);
        if (way == 0 || way == 3) throw new Ended(1);
        if (way == 4) stopNow = true;
    }
}
