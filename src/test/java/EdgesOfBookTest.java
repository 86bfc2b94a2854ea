/** Promises 5 and 13 to 18 at their bounds: room, and what is asked of what is booked. */
public final class EdgesOfBookTest {
    private static final Kit KIT = new Kit("EdgesOfBookTest");
    private static final int GATHER = 1, REJECT = 3, STOP = 4;
    private static final String ONE = "H|1|1\nP|A|m|1|\n";

    public static void main(String[] args) {
        householdsAtOnce();
        householdsInAll();
        personsAtOnce();
        personsInAll();
        bothAtTheirBounds();
        wholeOrNotAtAll();
        roomOfAHeldSheet();
        whatNeedsNoRoom();
        indexesOfHouseholds();
        indexesOfPersons();
        signsOfNames();
        lengthsOfNamesSought();
        bytesOfNamesSought();
        sumsOfPersons();
        sumsOfSheets();
        sheetsOfHouseholds();
        firstsOfHouseholds();
        KIT.finish();
    }

    private static String households(int count) {
        StringBuilder text = new StringBuilder();
        for (int n = 1; n <= count; n++) text.append("H|").append(n).append("|0\n");
        return text.toString();
    }

    /** A household of so many persons, whose ages go from 0 on up to 99 and from 0 on again. */
    private static String persons(int count) {
        StringBuilder text = new StringBuilder("H|1|x\n");
        for (int n = 0; n < count; n++) text.append("P|").append((char) ('A' + n / 100)).append("|m|").append(n % 100).append("|\n");
        return text.toString();
    }

    /** "if there is room: 60 households, 300 persons in all; else none of them (NOROOM)" */
    private static void householdsAtOnce() {
        int[] counts = {0, 1, 59, 60, 61, 62};
        for (int count : counts) {
            CensusDesk desk = Kit.deskWith(households(count), 14, GATHER, 0);
            KIT.due(count + " households", desk.receive(), count > 60 ? 3 : 0);
            KIT.due("are TAKEN", desk.sheet(1), count);
            KIT.due("are booked", desk.sum(0), count > 60 ? 0 : count);
            KIT.due("sheets", Kit.row(desk.sum(6), desk.sum(7), desk.sum(8)), count > 60 ? "0 0 1" : "1 0 0");
            KIT.due("the last", desk.house(count - 1, 0), count > 60 || count == 0 ? -1 : count);
            KIT.due("audit", desk.audit(), 0);
        }
    }

    private static void householdsInAll() {
        int[] more = {0, 1, 19, 20, 21, 60};
        for (int count : more) {
            CensusDesk desk = Kit.deskWith(households(40), 14, GATHER, 0);
            desk.receive();
            Kit.put(desk, households(count));
            KIT.due("40 and " + count, desk.receive(), count > 20 ? 3 : 0);
            KIT.due("are booked", desk.sum(0), count > 20 ? 40 : 40 + count);
            KIT.due("the 40th", Kit.house(desk, 39), "40 0 0 0 0");
            KIT.due("the 41st", Kit.house(desk, 40), count > 20 || count == 0 ? "-1 -1 -1 -1 -1" : "1 0 0 0 1");
            KIT.due("audit", desk.audit(), 0);
        }
    }

    private static void personsAtOnce() {
        int[] counts = {1, 299, 300, 301, 302};
        for (int count : counts) {
            CensusDesk desk = Kit.deskWith(persons(count), 4, REJECT, 0);
            KIT.due(count + " persons", desk.receive(), count > 300 ? 3 : 0);
            KIT.due("are taken", Kit.row(desk.sheet(1), desk.sheet(3)), Kit.row(1, count));
            KIT.due("are booked", Kit.row(desk.sum(0), desk.sum(1)), count > 300 ? "0 0" : Kit.row(1, count));
            KIT.due("the last", desk.person(count - 1, 1), count > 300 ? -1 : (count - 1) % 100);
            KIT.due("audit", desk.audit(), 0);
        }
    }

    private static void personsInAll() {
        int[] more = {1, 99, 100, 101};
        for (int count : more) {
            CensusDesk desk = Kit.deskWith(persons(200), 4, REJECT, 0);
            desk.receive();
            Kit.put(desk, persons(count) + "H|2|1\nP|A|m|1|\n");
            KIT.due("200, " + count + " and one", desk.receive(), count + 1 > 100 ? 3 : 0);
            KIT.due("are booked", desk.sum(1), count + 1 > 100 ? 200 : 201 + count);
            KIT.due("person 199", Kit.person(desk, 199), "0 99 0 1 0");
            KIT.due("person 200", Kit.person(desk, 200), count + 1 > 100 ? "-1 -1 -1 -1 -1" : "0 0 0 1 1");
            KIT.due("audit", desk.audit(), 0);
        }
    }

    private static void bothAtTheirBounds() {
        String full = persons(300) + households(60).substring("H|1|0\n".length());
        CensusDesk desk = Kit.deskWith(full, 4, REJECT, 0, 14, GATHER, 0);
        KIT.due("60 households and 300 persons", desk.receive(), 0);
        KIT.due("are booked", Kit.row(desk.sum(0), desk.sum(1)), "60 300");
        KIT.due("one more", answerOf(desk, "H|1|0\n"), 3);
        KIT.due("none", answerOf(desk, "S|0\n"), 0);
        KIT.due("the last of each", Kit.house(desk, 59) + ", " + Kit.person(desk, 299), "60 0 0 300 0, 0 99 0 1 0");
        CensusDesk households = Kit.deskWith(persons(300) + "H|61|0\n" + households(60).substring("H|1|0\n".length()),
            4, REJECT, 0, 14, GATHER, 0, 16, GATHER, 0);
        KIT.due("61 and 300", households.receive() + " " + households.sum(1), "3 0");
        CensusDesk persons = Kit.deskWith(persons(301) + households(60).substring("H|1|0\n".length()), 4, REJECT, 0, 14, GATHER, 0);
        KIT.due("60 and 301", persons.receive() + " " + persons.sum(0), "3 0");
    }

    private static int answerOf(CensusDesk desk, String sheet) {
        Kit.put(desk, sheet);
        return desk.receive();
    }

    /** "what is taken is booked whole or not at all" */
    private static void wholeOrNotAtAll() {
        CensusDesk desk = Kit.deskWith(households(59), 14, GATHER, 0);
        desk.receive();
        String before = Kit.house(desk, 58) + Kit.row(desk.sum(0), desk.sum(1), desk.sum(2), desk.sum(3), desk.sum(4), desk.sum(5));
        KIT.due("two, of which one would fit", answerOf(desk, "H|1|1\nP|A|m|7|\nH|2|1\nP|B|f|8|\n"), 3);
        KIT.due("nothing of them is booked", Kit.house(desk, 58)
            + Kit.row(desk.sum(0), desk.sum(1), desk.sum(2), desk.sum(3), desk.sum(4), desk.sum(5)), before);
        KIT.due("no name of them", Kit.named(desk, "A") + Kit.named(desk, "B"), 0);
        KIT.due("no sign of them", desk.sign(0, 0), 0);
        KIT.due("the sheet is as it was read", Kit.sheet(desk), "4 2 0 2 30");
        KIT.due("one that fits", answerOf(desk, "H|1|1\nP|C|f|9|\n"), 0);
        KIT.due("is booked, and nothing else", Kit.house(desk, 59) + ", " + Kit.person(desk, 0) + " " + Kit.name(desk, 0), "1 1 1 0 2, 1 9 0 1 59 C");
        // A household of which some persons would fit.
        CensusDesk persons = Kit.deskWith(persons(299), 4, REJECT, 0);
        persons.receive();
        KIT.due("two persons, of which one would fit", answerOf(persons, "H|1|2\nP|X|f|1|\nP|Y|f|1|\n"), 3);
        KIT.due("none is booked", Kit.row(persons.sum(0), persons.sum(1), persons.sum(3), persons.person(299, 0)), "1 299 0 -1");
        KIT.due("one that fits", answerOf(persons, "H|1|1\nP|Z|f|1|\n"), 0);
        KIT.due("is booked", Kit.person(persons, 299) + " " + Kit.name(persons, 299), "1 1 0 1 1 Z");
    }

    private static void roomOfAHeldSheet() {
        CensusDesk desk = Kit.deskWith(households(60) + "X\n", 14, GATHER, 0, 9, STOP, 0);
        KIT.due("60, held", desk.receive() + " " + desk.sheet(1), "2 60");
        KIT.due("nothing is booked yet", desk.sum(0), 0);
        KIT.due("given up", desk.drop(), 60);
        KIT.due("nothing is booked", desk.sum(0), 0);
        KIT.due("what was given up takes no room", desk.receive() + " " + desk.resume() + " " + desk.sum(0), "2 0 60");
        KIT.due("61 are too many at their end alone", desk.receive() + " " + desk.resume() + " " + desk.sum(0), "2 3 60");
        KIT.due("sums", Kit.sums(desk), "60 0 0 0 0 0 1 1 1");
        KIT.due("audit", desk.audit(), 0);
    }

    private static void whatNeedsNoRoom() {
        CensusDesk desk = Kit.deskWith(households(60), 14, GATHER, 0);
        desk.receive();
        KIT.due("an empty sheet", answerOf(desk, ""), 0);
        KIT.due("sums alone", answerOf(desk, "S|0\n"), 0);
        desk.rule(14, REJECT, 0);
        KIT.due("households that are LOST", answerOf(desk, households(70)), 0);
        KIT.due("sheets that were BOOKED", desk.sum(6), 4);
        KIT.due("households", desk.sum(0), 60);
    }

    /** "NONE (0 and 1 may be -1, too)." */
    private static void indexesOfHouseholds() {
        CensusDesk desk = Kit.deskWith(households(60), 14, GATHER, 0);
        KIT.due("house(0) of none", Kit.house(desk, 0), "-1 -1 -1 -1 -1");
        desk.receive();
        KIT.due("house(-1)", Kit.house(desk, -1), "-1 -1 -1 -1 -1");
        KIT.due("house(0)", Kit.house(desk, 0), "1 0 0 0 0");
        KIT.due("house(59)", Kit.house(desk, 59), "60 0 0 0 0");
        KIT.due("house(60)", Kit.house(desk, 60), "-1 -1 -1 -1 -1");
        KIT.due("what -1", desk.house(0, -1), -1);
        KIT.due("what 5", desk.house(0, 5), -1);
    }

    /** "NONE (0 to 2 may be -1, too)." */
    private static void indexesOfPersons() {
        CensusDesk desk = Kit.deskWith(persons(300), 4, REJECT, 0);
        KIT.due("person(0) of none", Kit.person(desk, 0), "-1 -1 -1 -1 -1");
        desk.receive();
        KIT.due("person(-1)", Kit.person(desk, -1), "-1 -1 -1 -1 -1");
        KIT.due("person(0)", Kit.person(desk, 0), "0 0 0 1 0");
        KIT.due("person(299)", Kit.person(desk, 299), "0 99 0 1 0");
        KIT.due("person(300)", Kit.person(desk, 300), "-1 -1 -1 -1 -1");
        KIT.due("what -1", desk.person(0, -1), -1);
        KIT.due("what 5", desk.person(0, 5), -1);
        KIT.due("sign(299, 0)", desk.sign(299, 0), 'C');
        KIT.due("sign(300, 0)", desk.sign(300, 0), 0);
    }

    /** "Sign k of a person's name; 0: there is none such." */
    private static void signsOfNames() {
        String thirty = "abcdefghijklmnopqrstuvwxyzABCD";
        CensusDesk desk = Kit.deskWith("H|1|3\nP|" + thirty + "|m|1|\nP|E|m|1|\nP|0|m|1|\n", 3, REJECT, 0);
        desk.receive();
        for (int k = -1; k <= 31; k++) KIT.due("sign(0, " + k + ")", desk.sign(0, k), k < 0 || k > 29 ? 0 : thirty.charAt(k));
        KIT.due("sign(1, ..)", Kit.row(desk.sign(1, -1), desk.sign(1, 0), desk.sign(1, 1)), "0 69 0");
        KIT.due("sign(2, ..)", Kit.row(desk.sign(2, -1), desk.sign(2, 0), desk.sign(2, 1)), "0 0 0");
        KIT.due("sign(3, 0)", desk.sign(3, 0), 0);
        KIT.due("sign(-1, 0)", desk.sign(-1, 0), 0);
        // A name behind a longer one that stood there, of a sheet that was given up, has no sign of it.
        CensusDesk again = Kit.deskWith("H|1|1\nP|" + thirty + "|m|1|\nX\n", 9, STOP, 0);
        again.receive();
        again.drop();
        Kit.put(again, ONE);
        again.receive();
        KIT.due("its own name", Kit.row(again.person(0, 3), again.sign(0, 0), again.sign(0, 1)), "1 65 0");
    }

    /** "with just that name (of the bytes of a, b, c, d, up to the first that is 0)" */
    private static void lengthsOfNamesSought() {
        String letters = "abcdefghijklmnopq";
        StringBuilder text = new StringBuilder("H|1|17\n");
        for (int length = 1; length <= 17; length++) text.append("P|").append(letters, 0, length).append("|m|1|\n");
        CensusDesk desk = Kit.deskWith(text.toString());
        KIT.due("receive", desk.receive(), 0);
        for (int length = 1; length <= 16; length++) {
            KIT.due("a name of " + length, Kit.named(desk, letters.substring(0, length)), 1);
            KIT.due("another of " + length, Kit.named(desk, letters.substring(0, length - 1) + "z"), 0);
        }
        KIT.due("no bytes", desk.named(0, 0, 0, 0), 0);
        KIT.due("no bytes ahead of some", desk.named(0x00616263, -1, -1, -1), 0);
        // The 17th sign can't be sought: sixteen bytes are a name of just sixteen.
        KIT.due("sixteen", desk.named(0x61626364, 0x65666768, 0x696a6b6c, 0x6d6e6f70), 1);
    }

    private static void bytesOfNamesSought() {
        CensusDesk desk = Kit.deskWith("H|1|3\nP|ab|m|1|\nP|ab|m|2|\nP||m|3|\nH|2|2\nP|ab|f|1|\nP|\u00e9\u0000b|f|1|\n", 29, GATHER, 0);
        desk.receive();
        KIT.due("in all households", desk.named(0x61620000, 0, 0, 0), 3);
        KIT.due("what is behind the first 0 does not count", desk.named(0x6162007a, 0x61626364, -1, 7), 3);
        KIT.due("the first byte alone", desk.named(0x61000000, 0, 0, 0), 0);
        KIT.due("one more", desk.named(0x61626100, 0, 0, 0), 0);
        KIT.due("in another case", desk.named(0x41420000, 0, 0, 0), 0);
        CensusDesk zero = Kit.deskWith("H|1|1\nP|\u0000ab|m|1|\n", 29, GATHER, 0);
        zero.receive();
        KIT.due("no bytes, though a name begins so", zero.named(0x00616200, 0, 0, 0), 0);
        KIT.due("a name without signs is not sought", desk.named(0, 0x61620000, 0, 0), 0);
        KIT.due("a sign 0 is no end of a name", desk.named(0xe9000000, 0, 0, 0), 0);
        KIT.due("nor found by a byte 0", desk.named(0xe9006200, 0, 0, 0), 0);
    }

    /** "2 persons with sex m, 3 with f, 4 the sum of all ages that are known, 5 persons whose age is MISSING" */
    private static void sumsOfPersons() {
        CensusDesk desk = Kit.deskWith("H|1|6\nP|A|m|0|\nP|B|f|120|\nP|C|x|7|\nP|D|m|x|\nP|E|f|x|\nP|F|x|x|\n", 25, REJECT, 0);
        desk.receive();
        KIT.due("sums", Kit.sums(desk), "1 6 2 2 127 3 1 0 0");
        KIT.due("audit", desk.audit(), 0);
        desk.receive();
        KIT.due("twice", Kit.sums(desk), "2 12 4 4 254 6 2 0 0");
        KIT.due("sum(-1)", desk.sum(-1), -1);
        KIT.due("sum(9)", desk.sum(9), -1);
        // The greatest ages of as many persons as there is room for.
        CensusDesk great = Kit.deskWith("H|1|x\n" + "P|A|m|x|\n".repeat(300), 4, 2, 999999, 29, GATHER, 0);
        great.receive();
        KIT.due("300 of 999999", Kit.sums(great), "1 300 300 0 299999700 0 1 0 0");
        KIT.due("their audit", great.audit(), 0);
    }

    /** "6 sheets that were BOOKED, 7 REJECTED or given up, 8 NOROOM" */
    private static void sumsOfSheets() {
        CensusDesk desk = new CensusDesk();
        String[] sheets = {"", "P\n", households(61), "X\n", "X\n"};
        String[] due = {"1 0 0", "1 1 0", "1 1 1", "1 1 1", "1 2 1"};
        Kit.setRules(desk, 14, GATHER, 0, 9, STOP, 0);
        for (int k = 0; k < sheets.length; k++) {
            if (k == 4) desk.drop();
            else answerOf(desk, sheets[k]);
            KIT.due("sheets behind " + k, Kit.row(desk.sum(6), desk.sum(7), desk.sum(8)), due[k]);
            KIT.due("audit behind " + k, desk.audit(), 0);
        }
        desk.receive();
        desk.resume();
        KIT.due("read on", Kit.row(desk.sum(6), desk.sum(7), desk.sum(8)), "2 2 1");
        KIT.due("audit", desk.audit(), 0);
    }

    /** "4 the sheet (from 0 on, of all that were received)" */
    private static void sheetsOfHouseholds() {
        CensusDesk desk = Kit.deskWith(ONE, 9, STOP, 0);
        desk.receive();
        answerOf(desk, "P\n");
        answerOf(desk, "X\n");
        desk.receive();
        desk.resume();
        answerOf(desk, "X\n");
        desk.drop();
        answerOf(desk, ONE);
        Kit.put(desk, ONE + "X\nH|2|1\nP|B|m|1|\n");
        desk.receive();
        desk.resume();
        KIT.due("sheets", Kit.row(desk.house(0, 4), desk.house(1, 4), desk.house(2, 4), desk.house(3, 4)), "0 4 5 5");
    }

    /** "2 how many persons, 3 the first of these"; "4 the household" of a person. */
    private static void firstsOfHouseholds() {
        CensusDesk desk = Kit.deskWith("H|1|1\nP|A|m|1|\nH|2|0\nP|B|m|1|1\nH|3|2\nP|C|m|1|\nP|D|m|1|\nX\nP|E|m|1|\n",
            12, REJECT, 0, 14, REJECT, 0, 15, GATHER, 0, 9, REJECT, 0);
        desk.receive();
        KIT.due("one that was LOST has no place", Kit.house(desk, 0) + ", " + Kit.house(desk, 1), "1 1 1 0 0, 3 2 3 1 0");
        for (int i = 0; i < 4; i++) KIT.due("household of " + i, desk.person(i, 4), i == 0 ? 0 : 1);
        desk.receive();
        KIT.due("again", Kit.house(desk, 2) + ", " + Kit.house(desk, 3), "1 1 1 4 1, 3 2 3 5 1");
        for (int i = 4; i < 8; i++) KIT.due("household of " + i, desk.person(i, 4), i == 4 ? 2 : 3);
        KIT.due("names", Kit.name(desk, 5) + Kit.name(desk, 6) + Kit.name(desk, 7), "CDE");
    }
}
