import java.util.LinkedHashMap;
import java.util.Map;

/**
 * Part 4 of the Terms: REFUSALS, and that "what is refused changes nothing". A desk that has been
 * asked for what is refused is held against a twin that has not, there and on its way from there.
 */
public final class RefusalTest {
    private static final Kit KIT = new Kit("RefusalTest");
    private static final int LOW = Integer.MIN_VALUE, HIGH = Integer.MAX_VALUE;
    private static final String ONE = "H|1|1\nP|A|m|1|\n";

    private interface Call {
        int on(CensusDesk desk);
    }

    private interface Maker {
        CensusDesk make();
    }

    private static final Map<String, Call> ALWAYS = new LinkedHashMap<>();
    private static final Map<String, Call> NOT_HELD = new LinkedHashMap<>();
    private static final Map<String, Call> WHILE_HELD = new LinkedHashMap<>();

    public static void main(String[] args) {
        listCalls();
        Map<String, Maker> free = new LinkedHashMap<>();
        free.put("new", CensusDesk::new);
        free.put("fed", () -> Kit.deskWith(ONE));
        free.put("booked", RefusalTest::booked);
        free.put("rejected", RefusalTest::rejected);
        free.put("given up", RefusalTest::givenUp);
        free.put("read on", RefusalTest::readOn);
        free.put("without room", RefusalTest::withoutRoom);
        for (Map.Entry<String, Maker> state : free.entrySet()) {
            refuse(state.getKey(), state.getValue(), ALWAYS);
            refuse(state.getKey(), state.getValue(), NOT_HELD);
        }
        Map<String, Maker> held = new LinkedHashMap<>();
        held.put("held outside", RefusalTest::heldOutside);
        held.put("held behind a household", RefusalTest::heldBehindHousehold);
        held.put("held by LOSTHOUSE", RefusalTest::heldByLostHouse);
        held.put("held at the end", RefusalTest::heldAtTheEnd);
        for (Map.Entry<String, Maker> state : held.entrySet()) {
            refuse(state.getKey(), state.getValue(), ALWAYS);
            refuse(state.getKey(), state.getValue(), WHILE_HELD);
        }
        fullTapes();
        whatIsNotRefused();
        KIT.finish();
    }

    /** The names of calls end with what they are refused by. */
    private static void listCalls() {
        int[] kinds = {LOW, -1, 0, 30, 31, HIGH};
        for (int kind : kinds) ALWAYS.put("rule of kind " + kind + " -3", desk -> desk.rule(kind, 1, 0));
        int[] ways = {LOW, -2, 5, 6, HIGH};
        for (int way : ways) ALWAYS.put("rule of way " + way + " -3", desk -> desk.rule(29, way, 0));
        int[] numbers = {LOW, -2, 1000000, HIGH};
        for (int number : numbers) {
            ALWAYS.put("rule of number " + number + " -3", desk -> desk.rule(29, 1, number));
            ALWAYS.put("no rule, of number " + number + " -3", desk -> desk.rule(19, -1, number));
        }
        int[] lengths = {LOW, -1, 4001, HIGH};
        for (int length : lengths) ALWAYS.put("end " + length + " -1", desk -> desk.end(length));
        int[] indexes = {LOW, -1, 300, HIGH};
        for (int i : indexes) {
            ALWAYS.put("failure " + i + " -1", desk -> desk.failure(i, 0));
            ALWAYS.put("depth " + i + " -1", desk -> desk.depth(i));
            ALWAYS.put("house " + i + " -1", desk -> desk.house(i, 2));
            ALWAYS.put("person " + i + " -1", desk -> desk.person(i, 3));
            ALWAYS.put("sign " + i + " 0", desk -> desk.sign(i, 0));
            ALWAYS.put("sign of 0, " + i + " 0", desk -> desk.sign(0, i));
        }
        int[] facts = {LOW, -1, 9, HIGH};
        for (int what : facts) {
            ALWAYS.put("failure 0, " + what + " -1", desk -> desk.failure(0, what));
            ALWAYS.put("sheet " + what + " -1", desk -> desk.sheet(what));
            ALWAYS.put("sum " + what + " -1", desk -> desk.sum(what));
            ALWAYS.put("house 0, " + what + " -1", desk -> desk.house(0, what));
            ALWAYS.put("person 0, " + what + " -1", desk -> desk.person(0, what));
        }
        int[] many = {LOW, -1, 0, 30, HIGH};
        for (int kind : many) ALWAYS.put("many " + kind + " -1", desk -> desk.many(kind));
        NOT_HELD.put("resume -1", CensusDesk::resume);
        NOT_HELD.put("drop -1", CensusDesk::drop);
        listCallsWhileHeld();
    }

    private static void listCallsWhileHeld() {
        WHILE_HELD.put("feed -2", desk -> desk.feed(0x0a580a58, 0x0a580a58, 0x0a580a58, 0x0a580a58, 0x0a580a58));
        WHILE_HELD.put("end 0 -2", desk -> desk.end(0));
        WHILE_HELD.put("end 1 -2", desk -> desk.end(1));
        for (int kind = 1; kind <= 29; kind++) {
            int of = kind;
            WHILE_HELD.put("rule of " + of + " -2", desk -> desk.rule(of, 3, 7));
            WHILE_HELD.put("no rule of " + of + " -2", desk -> desk.rule(of, -1, -1));
        }
        WHILE_HELD.put("receive -2", CensusDesk::receive);
    }

    private static void refuse(String state, Maker maker, Map<String, Call> calls) {
        CensusDesk twin = maker.make();
        String now = Kit.everything(twin);
        CensusDesk twinOnItsWay = maker.make();
        String later = goOn(twinOnItsWay);
        for (Map.Entry<String, Call> call : calls.entrySet()) {
            String name = state + ", " + call.getKey();
            String due = name.substring(name.lastIndexOf(' ') + 1);
            CensusDesk desk = maker.make();
            KIT.due(name, Integer.toString(call.getValue().on(desk)), due);
            KIT.due(name + ", then", Kit.everything(desk), now);
            CensusDesk onItsWay = maker.make();
            call.getValue().on(onItsWay);
            KIT.due(name + ", on its way", goOn(onItsWay), later);
        }
    }

    /** All that tells of THE TAPE and the rules: a sheet that is HELD to its end, and then the same TAPE again. */
    private static String goOn(CensusDesk desk) {
        StringBuilder all = new StringBuilder();
        int answer = desk.resume();
        for (int n = 0; n < 5 && answer == 2; n++) answer = desk.resume();
        all.append(answer).append(": ").append(Kit.everything(desk)).append('\n');
        answer = desk.receive();
        for (int n = 0; n < 5 && answer == 2; n++) answer = desk.resume();
        all.append(answer).append(": ").append(Kit.failures(desk)).append(": ").append(Kit.sheet(desk)).append(": ").append(Kit.sums(desk));
        for (int kind = 1; kind <= 29; kind++) all.append(' ').append(desk.rule(kind, -1, 0));
        all.append(' ').append(desk.feed(0, 0, 0, 0, 0));
        return all.toString();
    }

    private static CensusDesk booked() {
        CensusDesk desk = Kit.deskWith("P\n" + ONE + "H|2|0\nS|7\n", 28, 1, 0, 14, 1, 5);
        desk.receive();
        return desk;
    }

    private static CensusDesk rejected() {
        CensusDesk desk = Kit.deskWith(ONE + "H|2|1\nX\nP|B|m|1|\n", 4, 2, 7);
        desk.receive();
        return desk;
    }

    private static CensusDesk givenUp() {
        CensusDesk desk = heldBehindHousehold();
        desk.drop();
        return desk;
    }

    private static CensusDesk readOn() {
        CensusDesk desk = heldBehindHousehold();
        desk.resume();
        return desk;
    }

    private static CensusDesk withoutRoom() {
        CensusDesk desk = Kit.deskWith("H|1|0\n".repeat(61), 14, 1, 0, 16, 2, 0);
        Kit.setRules(desk, 29, 1, 0);
        desk.rule(14, 3, 0);
        desk.receive();
        desk.rule(14, 1, 0);
        desk.end(366);
        desk.receive();
        desk.end(12);
        return desk;
    }

    private static CensusDesk heldOutside() {
        CensusDesk desk = Kit.deskWith("P\nP\n" + ONE + "S|1\n", 19, 4, 0);
        desk.receive();
        return desk;
    }

    private static CensusDesk heldBehindHousehold() {
        CensusDesk desk = Kit.deskWith(ONE + "H|2|1\nP|B|x|5|\n\nH|3|2\nP|C|m|y|\nP|D|f|1|\n", 6, 4, 0, 4, 2, 33);
        desk.receive();
        return desk;
    }

    private static CensusDesk heldByLostHouse() {
        CensusDesk desk = Kit.deskWith(ONE + "H|2|1\nX\nP|B|m|5|\n" + "H|3|1\nP|C|f|1|\n", 21, 4, 0);
        desk.receive();
        return desk;
    }

    private static CensusDesk heldAtTheEnd() {
        CensusDesk desk = Kit.deskWith(ONE + "H|2|1\nP|B|x|5|\n", 6, 4, 0);
        desk.receive();
        return desk;
    }

    /** "NONE: more than 4000." */
    private static void fullTapes() {
        String[] sheets = {"\n".repeat(3981 - ONE.length()) + ONE, "\n".repeat(4000 - ONE.length()) + ONE};
        for (String sheet : sheets) {
            CensusDesk desk = Kit.deskWith(sheet);
            KIT.due("feed behind " + sheet.length(), desk.feed(0x58585858, 0, 0, 0, 0), -1);
            KIT.due("nothing of it came", desk.end(sheet.length() + 1), -1);
            KIT.due("what was there is there", desk.receive() + " " + Kit.sheet(desk), "0 2 1 0 1 " + sheet.length());
        }
        CensusDesk short20 = Kit.deskWith("\n".repeat(3980 - ONE.length()) + ONE);
        KIT.due("feed behind 3980", short20.feed(0x0a0a0a0a, 0x0a0a0a0a, 0x0a0a0a0a, 0x0a0a0a0a, 0x0a0a0a0a), 4000);
        KIT.due("they came", short20.receive() + " " + Kit.sheet(short20), "0 2 1 0 1 4000");
    }

    /** The other side of the bounds: what is just not refused. */
    private static void whatIsNotRefused() {
        CensusDesk desk = Kit.deskWith(ONE + "X\n", 9, 1, 0);
        desk.receive();
        KIT.due("rule(1, 0, -1)", desk.rule(1, 0, -1), -1);
        KIT.due("rule(29, 4, 999999)", desk.rule(29, 4, 999999), -1);
        KIT.due("rule(29, -1, 999999)", desk.rule(29, -1, 999999), 4);
        KIT.due("rule(1, -1, -1)", desk.rule(1, -1, -1), 0);
        KIT.due("end(17)", desk.end(17), 17);
        KIT.due("end(0)", desk.end(0), 0);
        KIT.due("failure(0, 0)", desk.failure(0, 0), 9);
        KIT.due("failure(0, 4)", desk.failure(0, 4), 1);
        KIT.due("many(1)", desk.many(1), 0);
        KIT.due("many(29)", desk.many(29), 1);
        KIT.due("depth(0)", desk.depth(0), 0);
        KIT.due("sheet(0)", desk.sheet(0), 3);
        KIT.due("sheet(4)", desk.sheet(4), 17);
        KIT.due("sum(0)", desk.sum(0), 1);
        KIT.due("sum(8)", desk.sum(8), 0);
        KIT.due("house(0, 0)", desk.house(0, 0), 1);
        KIT.due("house(0, 4)", desk.house(0, 4), 0);
        KIT.due("person(0, 0)", desk.person(0, 0), 0);
        KIT.due("person(0, 4)", desk.person(0, 4), 0);
        KIT.due("sign(0, 0)", desk.sign(0, 0), 'A');
    }
}
