/** Promises 13 to 18: sum, house, person, sign, named, audit. */
public final class BookTest {
    private static final Kit KIT = new Kit("BookTest");
    private static final String FIRST = "H|7|2\nP|Ann Lee|f|34|2\nP|Bo|m|7|\nH|8|x\nH|x|1\nP||q|y|zz\n";

    public static void main(String[] args) {
        CensusDesk desk = Kit.deskWith(FIRST, 22, 1, 0, 4, 3, 0, 6, 1, 0, 7, 1, 0, 14, 1, 0);
        KIT.due("receive", desk.receive(), 0);
        households(desk);
        persons(desk);
        signs(desk);
        names();
        sums(desk);
        audits();
        KIT.finish();
    }

    private static void households(CensusDesk desk) {
        KIT.due("household 0", Kit.house(desk, 0), "7 2 2 0 0");
        KIT.due("household 1, without persons", Kit.house(desk, 1), "8 -1 0 2 0");
        KIT.due("household 2", Kit.house(desk, 2), "-1 1 1 2 0");
        int[] wrong = {-1, 3, 60, Integer.MIN_VALUE, Integer.MAX_VALUE};
        for (int i : wrong) KIT.due("household " + i, Kit.house(desk, i), "-1 -1 -1 -1 -1");
        int[] wrongWhat = {-1, 5, Integer.MIN_VALUE, Integer.MAX_VALUE};
        for (int what : wrongWhat) KIT.due("house(0, " + what + ")", desk.house(0, what), -1);
    }

    private static void persons(CensusDesk desk) {
        KIT.due("person 0", Kit.person(desk, 0), "1 34 2 7 0");
        KIT.due("person 1", Kit.person(desk, 1), "0 7 0 2 0");
        KIT.due("person 2", Kit.person(desk, 2), "-1 -1 -1 0 2");
        int[] wrong = {-1, 3, 300, Integer.MIN_VALUE, Integer.MAX_VALUE};
        for (int i : wrong) KIT.due("person " + i, Kit.person(desk, i), "-1 -1 -1 -1 -1");
        int[] wrongWhat = {-1, 5, Integer.MIN_VALUE, Integer.MAX_VALUE};
        for (int what : wrongWhat) KIT.due("person(0, " + what + ")", desk.person(0, what), -1);
    }

    private static void signs(CensusDesk desk) {
        String name = "Ann Lee";
        for (int k = 0; k < name.length(); k++) KIT.due("sign(0, " + k + ")", desk.sign(0, k), name.charAt(k));
        int[] wrong = {-1, 7, 30, Integer.MIN_VALUE, Integer.MAX_VALUE};
        for (int k : wrong) KIT.due("sign(0, " + k + ")", desk.sign(0, k), 0);
        KIT.due("sign(1, 1)", desk.sign(1, 1), 'o');
        KIT.due("sign of no name", desk.sign(2, 0), 0);
        int[] wrongPerson = {-1, 3, 300, Integer.MIN_VALUE, Integer.MAX_VALUE};
        for (int i : wrongPerson) KIT.due("sign(" + i + ", 0)", desk.sign(i, 0), 0);
        CensusDesk foreign = Kit.deskWith("H|1|1\nP|\u00ff\u0000\u0080|m|1|\n", 29, 1, 0);
        foreign.receive();
        KIT.due("signs above 127", Kit.row(foreign.sign(0, 0), foreign.sign(0, 1), foreign.sign(0, 2)), "255 0 128");
        KIT.due("a name's byte 0 is no end of it", Kit.named(foreign, "\u00ff"), 0);
    }

    private static void names() {
        String sixteen = "abcdefghijklmnop";
        CensusDesk desk = Kit.deskWith("H|1|6\nP|Ann|f|1|\nP|Ann|f|2|\nP|Anna|m|3|\nP|" + sixteen + "|m|4|\nP|" + sixteen
            + "q|m|5|\nP||m|6|\nH|2|2\nP|Ann|m|1|\nP|\u00e9|m|1|\n", 29, 1, 0);
        KIT.due("receive", desk.receive(), 0);
        KIT.due("Ann", Kit.named(desk, "Ann"), 3);
        KIT.due("Anna", Kit.named(desk, "Anna"), 1);
        KIT.due("An", Kit.named(desk, "An"), 0);
        KIT.due("ann", Kit.named(desk, "ann"), 0);
        KIT.due("sixteen signs", Kit.named(desk, sixteen), 1);
        KIT.due("no bytes", desk.named(0, 0, 0, 0), 0);
        KIT.due("a byte 0 first", desk.named(0x00416e6e, 0x416e6e00, 1, 2), 0);
        KIT.due("up to the first byte 0", desk.named(0x416e6e00, 0x416e6e00, -1, -1), 3);
        KIT.due("behind a byte 0 nothing counts", desk.named(0x416e6e61, 0x00ffffff, -1, -1), 1);
        KIT.due("a byte above 127", Kit.named(desk, "\u00e9"), 1);
        KIT.due("of the whole range", desk.named(-1, -1, -1, -1), 0);
        Kit.put(desk, "H|1|1\nP|Ann|f|1|\nX\n");
        desk.rule(9, 4, 0);
        KIT.due("held", desk.receive(), 2);
        KIT.due("what is not booked yet does not count", Kit.named(desk, "Ann"), 3);
        desk.resume();
        KIT.due("booked it counts", Kit.named(desk, "Ann"), 4);
    }

    private static void sums(CensusDesk desk) {
        KIT.due("sums", Kit.sums(desk), "3 3 1 1 41 1 1 0 0");
        int[] wrong = {-1, 9, Integer.MIN_VALUE, Integer.MAX_VALUE};
        for (int what : wrong) KIT.due("sum(" + what + ")", desk.sum(what), -1);
        Kit.put(desk, "H|1|0\nX\n");
        KIT.due("REJECTED", desk.receive(), 1);
        KIT.due("sums then", Kit.sums(desk), "3 3 1 1 41 1 1 1 0");
        desk.rule(9, 4, 0);
        KIT.due("HELD", desk.receive(), 2);
        KIT.due("sums then", Kit.sums(desk), "3 3 1 1 41 1 1 1 0");
        desk.drop();
        KIT.due("given up", Kit.sums(desk), "3 3 1 1 41 1 1 2 0");
        Kit.put(desk, "H|1|0\n".repeat(58));
        desk.rule(16, 1, 0);
        KIT.due("NOROOM", desk.receive(), 3);
        KIT.due("sums then", Kit.sums(desk), "3 3 1 1 41 1 1 2 1");
        desk.end(6);
        desk.receive();
        KIT.due("one household more", Kit.sums(desk), "4 3 1 1 41 1 2 2 1");
        KIT.due("its sheet, of all received", Kit.house(desk, 3), "1 0 0 3 4");
    }

    private static void audits() {
        CensusDesk desk = Kit.deskWith("H|1|2\nP|A|m|1|\nP|B|f|999999|\nH|2|1\nP|C|x|y|\nX\nH|1|0\n",
            29, 1, 0, 4, 3, 0, 9, 4, 0, 16, 3, 0);
        KIT.due("audit of nothing", desk.audit(), 0);
        for (int round = 0; round < 22; round++) {
            KIT.due("receive " + round, desk.receive(), 2);
            KIT.due("audit, held " + round, desk.audit(), 0);
            KIT.due("end " + round, round % 3 == 2 ? desk.drop() : desk.resume(), round % 3 == 2 ? 2 : 0);
            KIT.due("audit " + round, desk.audit(), 0);
        }
        KIT.due("sums", Kit.sums(desk), "30 45 15 15 15000000 15 15 7 0");
    }
}
