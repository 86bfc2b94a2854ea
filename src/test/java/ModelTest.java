import java.nio.charset.StandardCharsets;

/**
 * All promises: runs of calls on CensusDesk and on the Model side by side, over sheets and rules
 * that a fixed row of numbers makes up, and everything that can be asked is asked of both.
 */
public final class ModelTest {
    private static final Kit KIT = new Kit("ModelTest");
    private static final int RUNS = 4000;
    private static final String[] NAMES = {
        "Ann", "Ann", "Bo", "Cy-Lee", "Ann Lee", "", "J0e", "A\u00e9", "\u0001", "\u0000b\u00ff", "a".repeat(30), "a".repeat(31),
        "b".repeat(29) + "\u0080cd", "?~"
    };
    private static final String[] SEXES = {"m", "f", "m", "f", "m", "f", "x", "", "mf", "\u0002m"};
    private static final String[] AGES = {
        "34", "34", "7", "9", "10", "0", "120", "121", "", "x9", "9x", "1234567", "000012", "4\u00072", "999999"
    };
    private static final String[] TRADES = {"", "", "0", "0", "3", "9", "12", "x", "\u009f4"};
    private static final String[] NUMBERS = {"x", "", "9999", "10000", "1234567", "3\u0003", "0"};
    private static final String[] ODDITIES = {"X", "Hx|1|1", "Px|a", "Sx", "H", "P", "S", "|", "H|", "P|Ann", "S|1|", "\u0000", "H|1|2|3"};
    private static final String[] SCRAPS = {
        "H", "P", "S", "|", "|", "|", "\n", "\n", "m", "f", "0", "1", "9", "a", "x", " ", "-", "\u0001", "\u00ff", "H|1|1\n",
        "P|a|m|1|\n", "P|a|m|9|1\n", "S|1\n", "H|", "P|", "S|", "H|2|2\n", "\nH|3|", "\nP|ab|f|", "10|", "121|", "X\n"
    };
    private static final int[] ODD_NUMBERS = {-1, 0, 1, 2, 31, 32, 63, 101, 126, 127, 999999};

    private final CensusDesk desk = new CensusDesk();
    private final Model model = new Model();
    private final String run;
    private long state;

    private ModelTest(int number) {
        run = "run " + number;
        state = number * 0x9E3779B97F4A7C15L + 12345;
    }

    public static void main(String[] args) {
        for (int number = 0; number < RUNS; number++) new ModelTest(number).play();
        KIT.finish();
    }

    private void play() {
        int sheets = 1 + below(4);
        for (int n = 0; n < sheets; n++) {
            if (below(4) != 0) newTape();
            newRules();
            same("receive", desk.receive(), model.receive());
            compareAll();
            for (int step = 0; step < 6 && goOn(); step++) compareAll();
            compareRefusals();
        }
    }

    /** Whether there was something to go on with. */
    private boolean goOn() {
        if (below(4) == 0) {
            same("feed", desk.feed(1, 2, 3, 4, 5), model.feed(1, 2, 3, 4, 5));
            int length = below(9);
            same("end", desk.end(length), model.end(length));
            setRule(below(31), 1, 0);
            same("receive", desk.receive(), model.receive());
        }
        boolean gaveUp = below(9) == 0;
        int answer = gaveUp ? desk.drop() : desk.resume();
        same(gaveUp ? "drop" : "resume", answer, gaveUp ? model.drop() : model.resume());
        return answer != CensusDesk.NONE;
    }

    private void newRules() {
        if (below(2) == 0) setRule(29, below(3) == 0 ? below(5) : 1, 0);
        if (below(2) == 0) setRule(28, below(3) == 0 ? 4 : 1, 0);
        int more = below(8);
        for (int n = 0; n < more; n++) {
            setRule(1 + below(29), below(6) - 1, below(3) == 0 ? below(200) : ODD_NUMBERS[below(ODD_NUMBERS.length)]);
        }
    }

    private void setRule(int kind, int way, int number) {
        same("rule", desk.rule(kind, way, number), model.rule(kind, way, number));
    }

    private void newTape() {
        byte[] bytes = newSheet().getBytes(StandardCharsets.ISO_8859_1);
        int keep = below(6) == 0 ? below(30) : 0;
        same("end", desk.end(keep), model.end(keep));
        int length = desk.end(keep) < 0 ? 0 : keep;
        for (int from = 0; from < bytes.length && length + from + 20 <= 4000; from += 20) {
            int[] words = new int[5];
            for (int k = 0; k < 5; k++) words[k] = Kit.word(bytes, from + 4 * k);
            same("feed", desk.feed(words[0], words[1], words[2], words[3], words[4]),
                model.feed(words[0], words[1], words[2], words[3], words[4]));
        }
        same("end", desk.end(length + bytes.length), model.end(length + bytes.length));
    }

    private String newSheet() {
        if (below(4) == 0) return newScraps();
        StringBuilder text = new StringBuilder();
        int households = below(40) == 0 ? 70 : below(6);
        int number = below(5);
        while (below(4) == 0) text.append(anyLine());
        for (int n = 0; n < households; n++) {
            number += below(8) == 0 ? -1 : 1 + below(3);
            addHousehold(text, number, below(60) == 0 ? 160 : below(4));
            if (below(6) == 0) text.append("S|").append(below(3) == 0 ? below(5) : n + 1).append('\n').append(anyLine());
        }
        if (below(3) == 0 && text.length() > 0) text.setCharAt(below(text.length()), (char) below(256));
        if (below(2) == 0 && text.length() > 0) text.setLength(text.length() - 1);
        return text.toString();
    }

    /** A sheet whose form is all chance. */
    private String newScraps() {
        StringBuilder text = new StringBuilder();
        for (int left = below(60); left > 0; left--) text.append(any(SCRAPS));
        return text.toString();
    }

    private void addHousehold(StringBuilder text, int number, int persons) {
        text.append("H|").append(below(8) == 0 ? any(NUMBERS) : Integer.toString(number));
        text.append('|').append(below(8) == 0 ? any(NUMBERS) : Integer.toString(persons)).append('\n');
        for (int n = 0; n < persons; n++) text.append(below(9) == 0 ? anyLine() : personLine());
    }

    private String personLine() {
        String name = below(2) == 0 ? "Ann" : any(NAMES);
        String age = below(3) == 0 ? Integer.toString(below(100)) : any(AGES);
        return "P|" + name + "|" + any(SEXES) + "|" + age + "|" + (below(2) == 0 ? "" : any(TRADES)) + "\n";
    }

    private String anyLine() {
        return switch (below(4)) {
            case 0 -> personLine();
            case 1 -> "\n";
            default -> any(ODDITIES) + "\n";
        };
    }

    private String any(String[] of) {
        return of[below(of.length)];
    }

    /** The next of a fixed row of numbers. */
    private int below(int bound) {
        state = state * 6364136223846793005L + 1442695040888963407L;
        return (int) Long.remainderUnsigned(state >>> 33, bound);
    }

    private void same(String call, int got, int want) {
        KIT.due(run + ": " + call, got, want);
    }

    private void compareAll() {
        same("failures", desk.failures(), model.failures());
        int failures = Math.min(302, model.failures() + 2);
        for (int i = -1; i < failures; i++) {
            for (int what = -1; what < 6; what++) same("failure " + i + " " + what, desk.failure(i, what), model.failure(i, what));
            same("depth " + i, desk.depth(i), model.depth(i));
        }
        for (int kind = 0; kind <= 30; kind++) same("many " + kind, desk.many(kind), model.many(kind));
        for (int what = -1; what < 6; what++) same("sheet " + what, desk.sheet(what), model.sheet(what));
        for (int what = -1; what < 10; what++) same("sum " + what, desk.sum(what), model.sum(what));
        same("audit", desk.audit(), model.audit());
        int households = model.sum(0);
        for (int i = -1; i <= households; i++) {
            for (int what = -1; what < 6; what++) same("house " + i + " " + what, desk.house(i, what), model.house(i, what));
        }
        int persons = model.sum(1);
        for (int i = -1; i <= persons; i++) {
            for (int what = -1; what < 6; what++) same("person " + i + " " + what, desk.person(i, what), model.person(i, what));
            int signs = Math.max(0, model.person(i, 3));
            for (int k = -1; k <= signs; k++) same("sign " + i + " " + k, desk.sign(i, k), model.sign(i, k));
        }
    }

    private void compareRefusals() {
        for (String name : NAMES) {
            byte[] bytes = name.getBytes(StandardCharsets.ISO_8859_1);
            int a = Kit.word(bytes, 0);
            int b = Kit.word(bytes, 4);
            int c = Kit.word(bytes, 8);
            int d = Kit.word(bytes, 12);
            same("named " + name, desk.named(a, b, c, d), model.named(a, b, c, d));
        }
        same("resume", desk.resume(), model.resume());
        same("drop", desk.drop(), model.drop());
        same("end", desk.end(4001), model.end(4001));
        setRule(below(40) - 5, below(9) - 3, below(2) == 0 ? 1000000 - below(3) : below(4) - 3);
    }
}
