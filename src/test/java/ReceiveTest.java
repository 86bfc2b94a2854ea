/** Promises 5 and 12: receive and sheet: what is read, where reading is, and what is booked of it. */
public final class ReceiveTest {
    private static final Kit KIT = new Kit("ReceiveTest");

    public static void main(String[] args) {
        ordinary();
        linesWithoutBytes();
        whereReadingIs();
        whatIsForgotten();
        roomForHouseholds();
        roomForPersons();
        roomForNames();
        largestSheets();
        wrongWhat();
        KIT.finish();
    }

    private static void received(CensusDesk desk, String sheet, int answer, String state) {
        Kit.put(desk, sheet);
        KIT.due(sheet.replace('\n', '/'), desk.receive(), answer);
        KIT.due(sheet.replace('\n', '/') + ": sheet", Kit.sheet(desk), state);
    }

    private static void ordinary() {
        CensusDesk desk = new CensusDesk();
        received(desk, "H|12|2\nP|Ann Lee|f|34|2\nP|Bo|m|7|\nH|13|1\nP|Cy|m|40|0\nS|2\n", 0, "6 2 0 3 57");
        KIT.due("no failures", desk.failures(), 0);
        KIT.due("household 0", Kit.house(desk, 0), "12 2 2 0 0");
        KIT.due("household 1", Kit.house(desk, 1), "13 1 1 2 0");
        KIT.due("person 0", Kit.person(desk, 0), "1 34 2 7 0");
        KIT.due("person 1", Kit.person(desk, 1), "0 7 0 2 0");
        KIT.due("person 2", Kit.person(desk, 2), "0 40 0 2 1");
        received(desk, "", 0, "0 0 0 0 0");
        received(desk, "S|0", 0, "1 0 0 0 3");
    }

    private static void linesWithoutBytes() {
        CensusDesk desk = new CensusDesk();
        received(desk, "\n\n\n", 0, "0 0 0 0 3");
        received(desk, "\n\nH|1|1\n\n\nP|A|m|1|\n\n", 0, "2 1 0 1 20");
        received(desk, "H|1|1\nP|A|m|1|", 0, "2 1 0 1 14");
        received(desk, "H|1|1\nP|A|m|1|\nS|1\n\n", 0, "3 1 0 1 20");
    }

    private static void whereReadingIs() {
        CensusDesk desk = new CensusDesk();
        // Outside: behind the LINE with its byte 10, the empty ones behind it not passed over yet.
        received(desk, "\nP|A\n\n\nH|1|0\n", 1, "1 0 0 0 5");
        received(desk, "P|A", 1, "1 0 0 0 3");
        // A household that is LOST at its end: ahead of the next LINE with 72 or 83.
        received(desk, "H|1|0\n\n\nH|2|0\n", 1, "1 0 1 0 8");
        received(desk, "H|1|0\n\n\nS|2\n", 1, "1 0 1 0 8");
        received(desk, "H|1|0\n\n\n", 1, "1 0 1 0 8");
        // One that is LOST amid its LINES: behind the one that was read last.
        received(desk, "H|1|1\nX\n\nP|A|m|1|\n", 1, "2 0 1 0 8");
        received(desk, "H|1\nP|A|m|1|\n", 1, "1 0 1 0 4");
        received(desk, "H|1|0\nX", 1, "2 0 1 0 7");
        // Passed over as the rest of a household that is LOST: not read.
        desk.rule(28, 1, 0);
        received(desk, "H|1|1\nX\nX\nQ|1\nP|A|m|1|\nH|2|1\nP|A|m|1|\n", 0, "4 1 1 1 38");
        received(desk, "H|1\n\nP|A|m|1|\nX\n", 0, "1 0 1 0 16");
        received(desk, "P|A\nX\nS|7\n", 0, "3 0 0 0 10");
    }

    private static void whatIsForgotten() {
        CensusDesk desk = new CensusDesk();
        received(desk, "H|5|1\nP|A|m|1|\nX\n", 1, "3 0 1 0 17");
        KIT.due("failures of it", desk.failures(), 3);
        received(desk, "H|5|1\nP|A|m|1|\n", 0, "2 1 0 1 15");
        KIT.due("they are forgotten", desk.failures(), 0);
        KIT.due("of each kind", desk.many(29), 0);
        KIT.due("failure(0, 0)", desk.failure(0, 0), -1);
        // The number of the sheet ahead of it is no matter for ORDER, nor its persons for TWICE.
        received(desk, "H|4|1\nP|A|m|1|\n", 0, "2 1 0 1 15");
        KIT.due("both are booked", desk.sum(0), 2);
        // A sheet that is REJECTED is booked by nothing, though a household was TAKEN.
        received(desk, "H|6|1\nP|B|m|1|\nX\nH|7|1\nP|C|m|1|\n", 1, "3 0 1 0 17");
        received(desk, "H|6|1\nP|B|m|1|\nS|1\nX\nH|7|1\nP|C|m|1|\n", 1, "4 1 0 1 21");
        KIT.due("none of it is booked", desk.sum(0), 2);
        KIT.due("household 2", desk.house(2, 0), -1);
        received(desk, "H|8|1\nP|D|m|1|\n", 0, "2 1 0 1 15");
        KIT.due("the sheet of the next", Kit.house(desk, 2), "8 1 1 2 5");
    }

    private static void roomForHouseholds() {
        CensusDesk desk = Kit.deskWith(bareHouseholds(1, 59), 14, 1, 0);
        KIT.due("59 households", desk.receive(), 0);
        Kit.put(desk, bareHouseholds(1, 2));
        KIT.due("two more", desk.receive(), 3);
        KIT.due("were TAKEN", desk.sheet(1), 2);
        KIT.due("none of them is booked", desk.sum(0), 59);
        Kit.put(desk, bareHouseholds(1, 1));
        KIT.due("the 60th", desk.receive(), 0);
        KIT.due("60 are booked", desk.sum(0), 60);
        KIT.due("the 61st", desk.receive(), 3);
        KIT.due("what is LOST needs no room", receivedBy(desk, "H|1|0\n", 14, 3, 0), 0);
        KIT.due("sums", Kit.sums(desk), "60 0 0 0 0 0 3 0 2");
        KIT.due("audit", desk.audit(), 0);
        CensusDesk many = Kit.deskWith(bareHouseholds(1, 61), 14, 1, 0);
        KIT.due("61 at once", many.receive(), 3);
        KIT.due("all TAKEN", many.sheet(1), 61);
        KIT.due("nothing is booked", many.sum(0), 0);
    }

    private static int receivedBy(CensusDesk desk, String sheet, int... rules) {
        Kit.put(desk, sheet);
        Kit.setRules(desk, rules);
        return desk.receive();
    }

    private static String bareHouseholds(int from, int to) {
        StringBuilder text = new StringBuilder();
        for (int n = from; n <= to; n++) text.append("H|").append(n).append("|0\n");
        return text.toString();
    }

    private static void roomForPersons() {
        CensusDesk desk = Kit.deskWith("H|1|x\n" + "P|A|m|1|\n".repeat(299), 17, 1, 0, 4, 3, 0);
        KIT.due("299 persons", desk.receive(), 0);
        Kit.put(desk, "H|1|1\nP|B|m|1|\nH|2|1\nP|C|m|1|\n");
        KIT.due("two more", desk.receive(), 3);
        KIT.due("none of them", Kit.sums(desk), "1 299 299 0 299 0 1 0 1");
        Kit.put(desk, "H|1|1\nP|B|f|1|\n");
        KIT.due("the 300th", desk.receive(), 0);
        KIT.due("is booked", Kit.person(desk, 299), "1 1 0 1 1");
        KIT.due("the 301st", desk.receive(), 3);
        KIT.due("person 300", desk.person(300, 0), -1);
        KIT.due("audit", desk.audit(), 0);
        CensusDesk many = Kit.deskWith("H|1|x\n" + "P|A|m|1|\n".repeat(301) + "H|2|1\nP|A|m|1|\n", 17, 1, 0, 4, 3, 0);
        KIT.due("301 in one household", many.receive(), 3);
        KIT.due("all were taken", Kit.sheet(many), "304 2 0 302 2730");
        KIT.due("nothing is booked", many.sum(1), 0);
        // Beyond the room, too, TWICE is asked of each person.
        CensusDesk beyond = Kit.deskWith("H|1|x\n" + "P|A|m|1|\n".repeat(320) + "P|B|m|1|\nP|B|m|1|\n", 17, 1, 0, 4, 3, 0);
        beyond.receive();
        KIT.due("TWICE behind the 300th", beyond.many(17), 320);
    }

    /** The names of earlier sheets and households take no room from later ones. */
    private static void roomForNames() {
        String person = "P|" + "n".repeat(29) + "%c|m|1|\n";
        StringBuilder text = new StringBuilder("H|1|x\n");
        for (char last = 'a'; last <= 'z'; last++) text.append(person.formatted(last));
        CensusDesk desk = Kit.deskWith(text.toString(), 4, 3, 0);
        for (int n = 0; n < 11; n++) KIT.due("26 long names, " + n, desk.receive(), 0);
        for (int n = 11; n < 30; n++) KIT.due("26 long names, " + n, desk.receive(), 3);
        for (int i = 0; i < 286; i++) KIT.due("name " + i, Kit.name(desk, i), "n".repeat(29) + (char) ('a' + i % 26));
        Kit.put(desk, "H|1|1\nP|" + "z".repeat(30) + "|m|1|\n");
        KIT.due("one more", desk.receive(), 0);
        KIT.due("its name", Kit.name(desk, 286), "z".repeat(30));
    }

    private static void largestSheets() {
        CensusDesk persons = Kit.deskWith("H\n" + "P\n".repeat(1999), 29, 1, 0);
        KIT.due("1999 persons", persons.receive(), 3);
        KIT.due("its sheet", Kit.sheet(persons), "2000 1 0 1999 4000");
        CensusDesk houses = Kit.deskWith("H\n".repeat(2000), 29, 1, 0);
        KIT.due("2000 households", houses.receive(), 3);
        KIT.due("its sheet", Kit.sheet(houses), "2000 2000 0 0 4000");
        CensusDesk names = Kit.deskWith("H\n" + "P|a\n".repeat(999) + "P", 29, 1, 0);
        KIT.due("999 of one name", names.receive(), 3);
        KIT.due("TWICE", names.many(17), 998);
        CensusDesk one = Kit.deskWith("H|" + "1".repeat(3998), 29, 1, 0);
        KIT.due("one line of 4000 bytes", one.receive(), 0);
        KIT.due("its number", one.house(0, 0), 111111);
        CensusDesk cells = Kit.deskWith("H" + "|".repeat(3999), 29, 1, 0);
        KIT.due("4000 cells", cells.receive(), 0);
        CensusDesk empty = Kit.deskWith("\n".repeat(4000));
        KIT.due("4000 bytes 10", empty.receive(), 0);
        KIT.due("its sheet", Kit.sheet(empty), "0 0 0 0 4000");
        CensusDesk bytes = Kit.deskWith("\u0000".repeat(4000));
        KIT.due("4000 bytes 0", bytes.receive(), 1);
        CensusDesk foreign = Kit.deskWith("H|1|0\nP|" + "\u0001".repeat(3980) + "|m|1|\n", 29, 1, 0);
        KIT.due("a name of 3980 signs that are foreign", foreign.receive(), 0);
        KIT.due("their failures", foreign.failures(), 3982);
        KIT.due("30 signs stay", foreign.person(0, 3), 30);
    }

    private static void wrongWhat() {
        CensusDesk desk = Kit.deskWith("H|1|1\nP|A|m|1|\n");
        desk.receive();
        int[] wrong = {-1, 5, Integer.MIN_VALUE, Integer.MAX_VALUE};
        for (int what : wrong) KIT.due("sheet(" + what + ")", desk.sheet(what), -1);
    }
}
