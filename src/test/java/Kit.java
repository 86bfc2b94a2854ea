import java.nio.charset.StandardCharsets;

/** What the tests share: sheets as texts, answers that are due, and a short form of many answers. */
final class Kit {
    private final String test;
    private int asked;
    private int wrong;

    Kit(String test) {
        this.test = test;
    }

    void due(String what, int got, int want) {
        due(what, Integer.toString(got), Integer.toString(want));
    }

    void due(String what, String got, String want) {
        asked++;
        if (got.equals(want)) return;
        wrong++;
        System.out.println(test + ": " + what + " answered " + got + ", due is " + want);
    }

    /** Ends the test, with exit code 1 if an answer was not the one that is due. */
    void finish() {
        System.out.println(test + ": " + asked + " answers, " + wrong + " not as due");
        if (wrong != 0 || asked == 0) System.exit(1);
    }

    /** THE TAPE becomes this text, a character a byte. */
    static void put(CensusDesk desk, String text) {
        byte[] bytes = text.getBytes(StandardCharsets.ISO_8859_1);
        desk.end(0);
        for (int from = 0; from < bytes.length; from += 20) {
            desk.feed(word(bytes, from), word(bytes, from + 4), word(bytes, from + 8),
                word(bytes, from + 12), word(bytes, from + 16));
        }
        if (desk.end(bytes.length) != bytes.length) throw new IllegalStateException("no room for " + text);
    }

    static int word(byte[] bytes, int from) {
        int word = 0;
        for (int k = from; k < from + 4; k++) word = word << 8 | (k < bytes.length ? bytes[k] & 255 : 0);
        return word;
    }

    /** A desk that has received the sheet by the rules; due is its answer, its failures, and what sheet() tells. */
    CensusDesk received(String sheet, int answer, String failures, String state, int... rules) {
        CensusDesk desk = deskWith(sheet, rules);
        String call = shown(sheet) + " by " + row(rules);
        due(call, desk.receive(), answer);
        due(call + ": failures", failures(desk), failures);
        due(call + ": sheet", sheet(desk), state);
        due(call + ": audit", desk.audit(), 0);
        return desk;
    }

    /** The failures alone that come up by the rules. */
    void comeUp(String sheet, String failures, int... rules) {
        CensusDesk desk = deskWith(sheet, rules);
        desk.receive();
        due(shown(sheet) + " by " + row(rules) + ": failures", failures(desk), failures);
    }

    /** A sheet for a message: its bytes 10 as /, others that can't be shown as <n>. */
    static String shown(String sheet) {
        StringBuilder all = new StringBuilder();
        for (char sign : sheet.toCharArray()) {
            if (sign == 10) all.append('/');
            else if (sign >= 32 && sign <= 126) all.append(sign);
            else all.append('<').append((int) sign).append('>');
        }
        return all.length() <= 200 ? all.toString() : all.substring(0, 200) + "..";
    }

    static CensusDesk deskWith(String text, int... rules) {
        CensusDesk desk = new CensusDesk();
        put(desk, text);
        setRules(desk, rules);
        return desk;
    }

    /** Rules as kind, way, number, kind, way, number, .. */
    static void setRules(CensusDesk desk, int... rules) {
        for (int k = 0; k + 2 < rules.length; k += 3) desk.rule(rules[k], rules[k + 1], rules[k + 2]);
    }

    /** Each failure as kind@place, and >cause, ~first, where it has them. */
    static String failures(CensusDesk desk) {
        StringBuilder all = new StringBuilder();
        for (int i = 0; i < desk.failures() && i < 300; i++) {
            if (i > 0) all.append(' ');
            all.append(desk.failure(i, 0)).append('@').append(desk.failure(i, 1));
            if (desk.failure(i, 2) != CensusDesk.NONE) all.append('>').append(desk.failure(i, 2));
            if (desk.failure(i, 3) != CensusDesk.NONE) all.append('~').append(desk.failure(i, 3));
        }
        return all.toString();
    }

    /** What sheet() tells: lines, taken, lost, persons, and where reading is. */
    static String sheet(CensusDesk desk) {
        return row(desk.sheet(0), desk.sheet(1), desk.sheet(2), desk.sheet(3), desk.sheet(4));
    }

    static String sums(CensusDesk desk) {
        StringBuilder all = new StringBuilder();
        for (int what = 0; what < 9; what++) all.append(what == 0 ? "" : " ").append(desk.sum(what));
        return all.toString();
    }

    static String house(CensusDesk desk, int i) {
        return row(desk.house(i, 0), desk.house(i, 1), desk.house(i, 2), desk.house(i, 3), desk.house(i, 4));
    }

    static String person(CensusDesk desk, int i) {
        return row(desk.person(i, 0), desk.person(i, 1), desk.person(i, 2), desk.person(i, 3), desk.person(i, 4));
    }

    static String name(CensusDesk desk, int i) {
        StringBuilder name = new StringBuilder();
        for (int k = 0; k < desk.person(i, 3); k++) name.append((char) desk.sign(i, k));
        return name.toString();
    }

    static int named(CensusDesk desk, String name) {
        byte[] bytes = name.getBytes(StandardCharsets.ISO_8859_1);
        return desk.named(word(bytes, 0), word(bytes, 4), word(bytes, 8), word(bytes, 12));
    }

    /** All that can be asked without a change: of the latest sheet, and of what is booked. */
    static String everything(CensusDesk desk) {
        StringBuilder all = new StringBuilder("failures ").append(desk.failures()).append(": ").append(failures(desk));
        for (int i = 0; i < desk.failures() && i < 300; i++) {
            all.append(' ').append(desk.failure(i, 4)).append('/').append(desk.depth(i));
        }
        for (int kind = 1; kind <= 29; kind++) all.append(kind == 1 ? "; many " : " ").append(desk.many(kind));
        all.append("; sheet ").append(sheet(desk)).append("; sums ").append(sums(desk));
        for (int i = 0; i < desk.sum(0); i++) all.append("; house ").append(house(desk, i));
        for (int i = 0; i < desk.sum(1); i++) {
            all.append("; person ").append(person(desk, i)).append(' ').append(name(desk, i));
        }
        return all.append("; audit ").append(desk.audit()).toString();
    }

    static String row(int... numbers) {
        StringBuilder all = new StringBuilder();
        for (int number : numbers) all.append(all.length() == 0 ? "" : " ").append(number);
        return all.toString();
    }
}
