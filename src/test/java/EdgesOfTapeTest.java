/** Part 1 of the Terms at its bounds: THE TAPE, LINES, CELLS, HOUSEHOLDS, VALUES. */
public final class EdgesOfTapeTest {
    private static final Kit KIT = new Kit("EdgesOfTapeTest");
    private static final int GATHER = 1, REPLACE = 2, REJECT = 3;
    private static final String ONE = "H|1|1\nP|A|m|1|\n";

    public static void main(String[] args) {
        atMost4000Bytes();
        lastByteOfAFullTape();
        firstByteOfATape();
        twentyBytesMore();
        keepsItsFirst();
        upTo512Calls();
        lastLineWithoutItsByte10();
        linesWithoutBytes();
        onlyBytes10PartLines();
        onlyBytes124PartCells();
        cellsWithoutBytes();
        sortsOfLines();
        whereAHouseholdBegins();
        whereAHouseholdEnds();
        valuesOfFields();
        valuesThatAreMissing();
        KIT.finish();
    }

    /** "THE TAPE, bytes, at most 4000." "NONE: more than 4000." */
    private static void atMost4000Bytes() {
        CensusDesk desk = new CensusDesk();
        for (int n = 0; n < 200; n++) KIT.due("feed " + n, desk.feed(0, 0, 0, 0, 0), 20 * n + 20);
        int[] lengths = {4000, 3999, 3982, 3981};
        for (int length : lengths) {
            KIT.due("end(" + length + ")", desk.end(length), length);
            KIT.due("feed behind " + length, desk.feed(0, 0, 0, 0, 0), -1);
            KIT.due("behind " + length + " nothing came", desk.end(length + 1), -1);
        }
        KIT.due("end(3980)", desk.end(3980), 3980);
        KIT.due("feed behind 3980", desk.feed(0, 0, 0, 0, 0), 4000);
        KIT.due("end(3979)", desk.end(3979), 3979);
        KIT.due("feed behind 3979", desk.feed(0, 0, 0, 0, 0), 3999);
        KIT.due("end(0)", desk.end(0), 0);
        KIT.due("feed behind 0", desk.feed(0, 0, 0, 0, 0), 20);
    }

    private static void lastByteOfAFullTape() {
        int[] lengths = {3999, 4000};
        for (int length : lengths) {
            String empty = "\n".repeat(length - ONE.length() - 4);
            KIT.received(empty + ONE + "S|01", 0, "", "3 1 0 1 " + length);
            KIT.received(empty + ONE + "S|02", 1, "20@" + (length - 4), "3 1 0 1 " + length);
            KIT.received(empty + ONE + "S|1\n", 0, "", "3 1 0 1 " + length);
        }
    }

    private static void firstByteOfATape() {
        KIT.received("", 0, "", "0 0 0 0 0");
        KIT.received("H", 1, "10@0 18@0>0 21@0>1", "1 0 1 0 1");
        KIT.received("P", 1, "19@0", "1 0 0 0 1");
        KIT.received("S", 1, "10@0 21@0>0", "1 0 0 0 1");
        KIT.received("X", 1, "9@0 21@0>0", "1 0 0 0 1");
        KIT.received("\n", 0, "", "0 0 0 0 1");
    }

    /** "Twenty bytes more come to THE TAPE, the highest of each number first". */
    private static void twentyBytesMore() {
        CensusDesk desk = new CensusDesk();
        KIT.due("feed", desk.feed(0x487c317c, 0x310a507c, 0x61626364, 0x65666768, 0x696a6b6c), 20);
        KIT.due("feed", desk.feed(0x6d6e6f70, 0x71727374, 0x75767778, 0x7c6d7c31, 0x7c0a0a0a), 40);
        KIT.due("receive", desk.receive(), 0);
        KIT.due("the bytes in their order", Kit.name(desk, 0), "abcdefghijklmnopqrstuvwx");
        KIT.due("all are read", Kit.sheet(desk), "2 1 0 1 40");
        CensusDesk high = new CensusDesk();
        high.feed(0x487c317c, 0x310a507c, 0x80ff7fe9, 0x7c6d7c31, 0x7c0a0a0a);
        high.rule(29, GATHER, 0);
        high.receive();
        KIT.due("bytes above 127 are no lower ones",
            Kit.row(high.sign(0, 0), high.sign(0, 1), high.sign(0, 2), high.sign(0, 3)), "128 255 127 233");
    }

    /** "THE TAPE keeps its first n bytes: n. NONE." */
    private static void keepsItsFirst() {
        String sheet = ONE + "S|12";
        int length = sheet.length();
        CensusDesk desk = Kit.deskWith(sheet);
        KIT.due("one more than it has", desk.end(length + 1), -1);
        KIT.due("all that it has", desk.end(length), length);
        KIT.due("that were all", desk.receive() + " " + Kit.failures(desk), "1 20@15");
        KIT.due("one fewer", desk.end(length - 1), length - 1);
        KIT.due("the last one is gone", desk.receive(), 0);
        KIT.due("and does not come back", desk.end(length), -1);
        KIT.due("one", desk.end(1), 1);
        KIT.due("the first is there", desk.receive() + " " + Kit.failures(desk), "1 10@0 18@0>0 21@0>1");
        KIT.due("two", desk.end(2), -1);
        KIT.due("none", desk.end(0), 0);
        KIT.due("fewer than none", desk.end(-1), -1);
        KIT.due("nothing is read", desk.receive() + " " + Kit.sheet(desk), "0 0 0 0 0 0");
        KIT.due("one of none", desk.end(1), -1);
    }

    /** "An object is used for at most 512 calls after it has been made". */
    private static void upTo512Calls() {
        CensusDesk desk = new CensusDesk();
        for (int n = 0; n < 505; n++) desk.receive();
        desk.feed(0x487c317c, 0x310a507c, 0x417c6d7c, 0x317c0a0a, 0x0a0a0a0a);
        KIT.due("call 507: receive", desk.receive(), 0);
        KIT.due("call 508: its sheet, of all received", desk.house(0, 4), 505);
        KIT.due("call 509: sheets BOOKED", desk.sum(6), 506);
        KIT.due("call 510: failures", desk.failures(), 0);
        KIT.due("call 511: sheet", desk.sheet(4), 20);
        KIT.due("call 512: audit", desk.audit(), 0);
    }

    /** "(behind the last one none need stand)" */
    private static void lastLineWithoutItsByte10() {
        String[] ends = {"", "\n", "\n\n"};
        for (int more = 0; more < 3; more++) {
            KIT.received("H|1|1\nP|A|m|1|7" + ends[more], 1, "12@6 18@6>0 21@0>1", "2 0 1 0 " + (15 + Math.min(more, 1)));
            KIT.received("H|1|1\nP|A|m|1|" + ends[more], 0, "", "2 1 0 1 " + (14 + more));
            KIT.received(ONE + "S|1" + ends[more], 0, "", "3 1 0 1 " + (18 + more));
            KIT.received("H|1|0" + ends[more], 0, "14@0", "1 1 0 0 " + (5 + more), 14, GATHER, 0);
            KIT.received(ONE + "X" + ends[more], 0, "9@15", "3 1 0 1 " + (16 + more), 9, REJECT, 0);
            KIT.received("P" + ends[more], 0, "19@0", "1 0 0 0 " + (1 + more), 19, GATHER, 0);
        }
        // A cell that is not there is at the end of the LINE, with its byte 10 or without.
        KIT.comeUp("S", "10@0 4@1 20@0", 29, GATHER, 0, 4, REPLACE, 5);
        KIT.comeUp("S\n", "10@0 4@1 20@0", 29, GATHER, 0, 4, REPLACE, 5);
    }

    /** "those without bytes are passed over" */
    private static void linesWithoutBytes() {
        KIT.received("\n" + ONE, 0, "", "2 1 0 1 16");
        KIT.received("\n\n\n" + ONE, 0, "", "2 1 0 1 18");
        KIT.received("H|1|1\n\nP|A|m|1|\n", 0, "", "2 1 0 1 16");
        KIT.received("H|1|1\n\n\n\nP|A|m|1|\n\n\n", 0, "", "2 1 0 1 20");
        KIT.received(ONE + "\n\nH|2|1\nP|A|m|1|\n", 0, "", "4 2 0 2 32");
        KIT.received(ONE + "\nS|1\n\nS|1\n\n", 0, "", "4 1 0 1 26");
        KIT.received("\n".repeat(3999), 0, "", "0 0 0 0 3999");
        KIT.received("\n".repeat(4000), 0, "", "0 0 0 0 4000");
        // One without bytes is no end of a household, and nothing comes up for it.
        KIT.received("H|1|2\nP|A|m|1|\n\nP|B|m|1|\n", 0, "", "3 1 0 2 25");
        // One byte is no LINE without bytes.
        String[] bytes = {" ", "\r", "\t", "\u0000", "|", "\u00ff"};
        for (String one : bytes) KIT.received(one + "\n" + ONE, 0, "9@0", "3 1 0 1 17", 9, GATHER, 0);
    }

    private static void onlyBytes10PartLines() {
        int[] others = {0, 9, 11, 13, 32, 123, 125, 138, 255};
        for (int other : others) {
            KIT.received("X" + (char) other + "X", 0, "9@0", "1 0 0 0 3", 9, GATHER, 0);
        }
        KIT.received("X\nX", 0, "9@0 9@2~0", "2 0 0 0 3", 9, GATHER, 0);
    }

    /** "In a LINE bytes 124 part CELLS." */
    private static void onlyBytes124PartCells() {
        KIT.comeUp("S|0", "");
        KIT.comeUp("S{0", "9@0 21@0>0");
        KIT.comeUp("S}0", "9@0 21@0>0");
        KIT.comeUp("S|0|0", "11@0 21@0>0");
        KIT.comeUp("S|0{0", "4@2 13@0>0 21@0>1");
        KIT.comeUp("S|0}0", "4@2 13@0>0 21@0>1");
        KIT.comeUp("S|0\u00fc0", "1@3 4@2", 1, GATHER, 0, 4, GATHER, 0);
    }

    private static void cellsWithoutBytes() {
        KIT.comeUp("S|", "4@2", 4, REJECT, 0);
        KIT.comeUp("H||\n", "4@2 4@3~0 14@0", 29, GATHER, 0);
        KIT.comeUp("H|1|1\nP||||\n", "2@8 6@9~0 4@10~0", 29, GATHER, 0);
        // Behind the last byte 124 a cell stands, even without bytes.
        KIT.comeUp("S|0|", "11@0", 11, GATHER, 0);
        KIT.comeUp("H|1|0|\n", "11@0 14@0", 29, GATHER, 0);
        KIT.comeUp("H|1|1\nP|A|m|1||\n", "11@6", 11, GATHER, 0);
    }

    /** "(H, P, S: bytes 72, 80, 83.)" */
    private static void sortsOfLines() {
        for (int first = 0; first < 256; first++) {
            if (first == 10) continue;
            String due = first == 72 ? "10@0 4@3 14@0" : first == 80 ? "19@0" : first == 83 ? "" : "9@0";
            KIT.comeUp((char) first + (first == 124 ? "0" : "|0"), due, 29, GATHER, 0);
        }
    }

    /** "A HOUSEHOLD begins with a LINE whose first byte is 72". */
    private static void whereAHouseholdBegins() {
        String[] beginnings = {"H", "Hx", "H|", "HH", "H|x|y|z", "H\u0000"};
        for (String first : beginnings) {
            CensusDesk desk = Kit.deskWith(first + "\nP|A|m|1|\n", 29, GATHER, 0, 26, REJECT, 0);
            KIT.due(Kit.shown(first), desk.receive(), 0);
            KIT.due(Kit.shown(first) + " begins a household: no STRAY", desk.many(19), 0);
            KIT.due(Kit.shown(first) + ": sheet", Kit.sheet(desk), "2 1 0 1 " + (first.length() + 10));
        }
        String[] others = {"h|1|1", "I|1|1", "G|1|1", " H|1|1", "|H|1|1"};
        for (String first : others) {
            CensusDesk desk = Kit.deskWith(first + "\nP|A|m|1|\n", 29, GATHER, 0);
            desk.receive();
            KIT.due(Kit.shown(first) + " begins none", desk.many(19), 1);
        }
    }

    /** ".. and goes on up to the next such, one with 83, or the end of THE TAPE." */
    private static void whereAHouseholdEnds() {
        // An ODD one with 72 is the next such; one with 83 ends it, ODD or not; all others don't.
        KIT.comeUp("H|1|0\nHx\n", "14@0 9@6 14@6", 29, GATHER, 0);
        KIT.comeUp("H|1|0\nSx\nP\n", "14@0 9@6 19@9", 29, GATHER, 0);
        KIT.comeUp("H|1|0\nS|1\nP\n", "14@0 19@10", 29, GATHER, 0);
        KIT.comeUp("H|1|0\nS\nP\n", "14@0 10@6 4@7 20@6 19@8~3", 29, GATHER, 0);
        String[] within = {"Px", "X", "R|0", "T|0", "G|0", "I|0", "s|0", "h|0", "\u0000", "|"};
        for (String line : within) KIT.comeUp("H|1|1\n" + line + "\nP|A|m|1|\n", "9@6", 9, GATHER, 0);
        KIT.received("H|1|1\nP|A|m|1|", 0, "", "2 1 0 1 14");
    }

    /** "a name: its signs; sex: 0 for m, 1 for f; trade: 0 for no signs, else its digit; others: numbers." */
    private static void valuesOfFields() {
        CensusDesk desk = Kit.deskWith("H|0|3\nP|A|m|0|\nP|Bc|f|120|0\nP|D-e f|f|10|9\n");
        desk.receive();
        KIT.due("household", Kit.house(desk, 0), "0 3 3 0 0");
        KIT.due("person 0", Kit.person(desk, 0) + " " + Kit.name(desk, 0), "0 0 0 1 0 A");
        KIT.due("person 1", Kit.person(desk, 1) + " " + Kit.name(desk, 1), "1 120 0 2 0 Bc");
        KIT.due("person 2", Kit.person(desk, 2) + " " + Kit.name(desk, 2), "1 10 9 5 0 D-e f");
        CensusDesk zeros = Kit.deskWith("H|009999|000001\nP|A|m|000120|\nS|000001\n");
        KIT.due("zeros ahead", zeros.receive(), 0);
        KIT.due("are no matter", Kit.house(zeros, 0) + ", " + zeros.person(0, 1), "9999 1 1 0 0, 120");
    }

    /** "-1 is MISSING (a name that is MISSING has no signs)." */
    private static void valuesThatAreMissing() {
        CensusDesk desk = Kit.deskWith("H|x|x\nP|0|x|x|x\n", 25, REJECT, 7);
        KIT.due("all fields are LOST", desk.receive(), 0);
        KIT.due("household", Kit.house(desk, 0), "-1 -1 1 0 0");
        KIT.due("person", Kit.person(desk, 0), "-1 -1 -1 0 0");
        KIT.due("no signs", desk.sign(0, 0), 0);
        KIT.due("sums", Kit.sums(desk), "1 1 0 0 0 1 1 0 0");
        CensusDesk replaced = Kit.deskWith("H|x|x\nP|A|x|x|x\n", 25, REPLACE, -1);
        KIT.due("-1 in their place", replaced.receive(), 0);
        KIT.due("is MISSING: household", Kit.house(replaced, 0), "-1 -1 1 0 0");
        KIT.due("is MISSING: person", Kit.person(replaced, 0), "-1 -1 -1 1 0");
        KIT.due("is MISSING: sums", Kit.sums(replaced), "1 1 0 0 0 1 1 0 0");
        KIT.due("audit", replaced.audit() + desk.audit(), 0);
    }
}
