/** The Terms, part 2: each KIND by each WAY, with its PLACE, CAUSE and FIRST (promises 4, 5, 9). */
public final class WaysTest {
    private static final Kit KIT = new Kit("WaysTest");
    private static final int THROW = 0, GATHER = 1, REPLACE = 2, REJECT = 3, STOP = 4;
    private static final String[] SHEETS = SheetsByKind.sheets();

    public static void main(String[] args) {
        foreign();
        lostSign();
        empty();
        badName();
        badNumber();
        great();
        badSex();
        noTrade();
        odd();
        fewAndMany();
        child();
        lostField();
        bareToldOrder();
        twice();
        lostLine();
        straySumLostHouse();
        KIT.finish();
    }

    private static CensusDesk received(String sheet, int answer, String failures, String state, int... rules) {
        return KIT.received(sheet, answer, failures, state, rules);
    }

    private static void foreign() {
        String sheet = SHEETS[1];
        received(sheet, 1, "1@9 8@8>0 13@6>1 18@6>2 21@0>3", "2 0 1 0 19");
        CensusDesk stays = received(sheet, 0, "1@9 3@9", "2 1 0 1 19", 29, GATHER, 0);
        KIT.due("FOREIGN gathered stays", Kit.name(stays, 0), "A\u00e9b");
        String[] names = {"A?b", "A b", "A~b", "A?b", "A?b", "A?b", "A|b"};
        int[] numbers = {31, 32, 126, 127, -1, 999999, 124};
        for (int k = 0; k < names.length; k++) {
            CensusDesk desk = Kit.deskWith(sheet, 3, GATHER, 0, 1, REPLACE, numbers[k]);
            desk.receive();
            KIT.due("FOREIGN replaced by " + numbers[k], Kit.name(desk, 0), names[k]);
        }
        received(sheet, 0, "1@9", "2 1 0 1 19", 1, REPLACE, 101);
        CensusDesk leftOut = received(sheet, 0, "1@9", "2 1 0 1 19", 1, REJECT, 0);
        KIT.due("FOREIGN rejected is left out", Kit.name(leftOut, 0), "Ab");
        CensusDesk stopped = received(sheet, 2, "1@9", "2 1 0 1 19", 1, STOP, 0);
        KIT.due("FOREIGN stopped", stopped.resume(), 0);
        KIT.due("and is left out", Kit.name(stopped, 0), "Ab");
        edgesOfForeign();
    }

    private static void edgesOfForeign() {
        int[] foreign = {0, 1, 9, 11, 31, 127, 128, 255};
        for (int sign : foreign) {
            CensusDesk desk = Kit.deskWith("H|1|1\nP|A" + (char) sign + "|m|30|1\n", 1, REJECT, 0);
            desk.receive();
            KIT.due("byte " + sign + " is FOREIGN", desk.many(1), 1);
        }
        int[] own = {32, 126};
        for (int sign : own) {
            CensusDesk desk = Kit.deskWith("H|1|1\nP|A" + (char) sign + "|m|30|1\n", 29, GATHER, 0);
            desk.receive();
            KIT.due("byte " + sign + " is not FOREIGN", desk.many(1), 0);
        }
        received("H|\u00011|1\nP|A|m\u0002|3\u00033|\u00041\u0005\n", 0, "1@2 1@12~0 1@15~0 1@18~0 1@20~0",
            "2 1 0 1 22", 1, REJECT, 0);
        received("H|1|\u0080\nP|A|m|1|\n", 0, "1@4 4@4", "2 1 0 1 15", 1, GATHER, 0, 4, REPLACE, 1);
    }

    private static void lostSign() {
        String sheet = SHEETS[1];
        CensusDesk gathered = received(sheet, 0, "1@9 8@8>0", "2 1 0 1 19", 8, GATHER, 0);
        KIT.due("LOSTSIGN gathered", Kit.name(gathered, 0), "Ab");
        CensusDesk replaced = received(sheet, 0, "1@9 8@8>0", "2 1 0 1 19", 8, REPLACE, 65);
        KIT.due("LOSTSIGN replaced", Kit.name(replaced, 0), "Ab");
        CensusDesk rejected = received(sheet, 0, "1@9 8@8>0", "2 1 0 1 19", 8, REJECT, 0);
        KIT.due("LOSTSIGN rejected: the name is MISSING", Kit.person(rejected, 0), "0 30 1 0 0");
        received(sheet, 2, "1@9 8@8>0", "2 1 0 1 19", 8, STOP, 0);
        received("H|1|1\nP|\u0001A\u0002|m|30|1\n", 0, "1@8 8@8>0 1@10~0 8@8>2~1", "2 1 0 1 19", 8, GATHER, 0);
        // No more of the field is looked at: its second byte does not come up.
        received("H|1|1\nP|\u0001A\u0002|m|30|1\n", 0, "1@8 8@8>0", "2 1 0 1 19", 8, REJECT, 0);
        received("H|1|1\nP|\u0001|m|30|1\n", 0, "1@8 8@8>0 2@8~1", "2 1 0 1 17", 8, GATHER, 0, 2, GATHER, 0);
    }

    private static void empty() {
        received(SHEETS[2], 1, "2@8 13@6>0 18@6>1 21@0>2", "2 0 1 0 16");
        int[] ways = {GATHER, REPLACE, REJECT};
        for (int way : ways) {
            CensusDesk desk = received(SHEETS[2], 0, "2@8", "2 1 0 1 16", 2, way, 65);
            KIT.due("EMPTY by " + way, Kit.person(desk, 0), "0 30 1 0 0");
        }
        received(SHEETS[2], 2, "2@8", "2 1 0 1 16", 2, STOP, 0);
    }

    private static void badName() {
        received(SHEETS[3], 1, "3@9 13@6>0 18@6>1 21@0>2", "2 0 1 0 19");
        String[] names = {"A0b", "A0b", ""};
        int[] ways = {GATHER, REPLACE, REJECT};
        for (int k = 0; k < 3; k++) {
            CensusDesk desk = received(SHEETS[3], 0, "3@9", "2 1 0 1 19", 3, ways[k], 65);
            KIT.due("BADNAME by " + ways[k], Kit.name(desk, 0), names[k]);
        }
        for (int sign = 32; sign < 127; sign++) {
            if (sign == '|') continue;
            CensusDesk desk = Kit.deskWith("H|1|1\nP|a" + (char) sign + "|m|30|1\n");
            boolean isGood = Character.isLetter(sign) || sign == ' ' || sign == '-';
            KIT.due("a name with " + (char) sign, desk.receive(), isGood ? 0 : 1);
            KIT.due("BADNAME by " + (char) sign, desk.failure(0, 0), isGood ? -1 : 3);
        }
        String thirty = "a".repeat(30);
        received("H|1|1\nP|" + thirty + "|m|30|1\n", 0, "", "2 1 0 1 46");
        CensusDesk cut = received("H|1|1\nP|" + thirty + "bc|m|30|1\n", 0, "3@38", "2 1 0 1 48", 3, GATHER, 0);
        KIT.due("the first 30 signs", Kit.name(cut, 0), thirty);
        received("H|1|1\nP|" + thirty + "\u0001|m|30|1\n", 0, "1@38", "2 1 0 1 47", 1, REJECT, 0);
        received("H|1|1\nP|\u0001" + thirty + "b|m|30|1\n", 0, "1@8 3@39", "2 1 0 1 48", 1, REJECT, 0, 3, GATHER, 0);
        received("H|1|1\nP|a1b2|m|30|1\n", 0, "3@9", "2 1 0 1 20", 3, GATHER, 0);
    }

    private static void badNumber() {
        received(SHEETS[4], 1, "4@13 13@6>0 18@6>1 21@0>2", "2 0 1 0 18");
        String[] cells = {"3x", "", "x", "1234567", "12345x7", "1x3", " 1", "-1", "123456789012345678901234567890123"};
        int[] gathered = {3, 0, 0, 123456, 12345, 1, 0, 0, 123456};
        for (int k = 0; k < cells.length; k++) {
            String sheet = "H|1|1\nP|Ab|m|" + cells[k] + "|0\n";
            KIT.due("age " + cells[k] + " gathered", ageBy(sheet, 4, GATHER, 0), gathered[k]);
            KIT.due("age " + cells[k] + " replaced", ageBy(sheet, 4, REPLACE, 500), 500);
            KIT.due("age " + cells[k] + " replaced by MISSING", ageBy(sheet, 4, REPLACE, -1), -1);
            KIT.due("age " + cells[k] + " rejected", ageBy(sheet, 4, REJECT, 500), -1);
        }
        KIT.due("six digits are a number", ageBy("H|1|1\nP|Ab|m|000012|0\n", 29, REJECT, 0), 12);
        received("H|x|y\nP|A|m|z|0\n", 0, "4@2 4@4~0 4@12~0", "2 1 0 1 16", 4, REJECT, 0);
        received("H|1|1\nP|A|m|1|0\nS|z\n", 0, "4@18", "3 1 0 1 20", 4, REJECT, 0);
    }

    private static int ageBy(String sheet, int... rules) {
        CensusDesk desk = Kit.deskWith(sheet, rules);
        KIT.due(sheet.replace('\n', '/') + " by " + Kit.row(rules), desk.receive(), 0);
        return desk.person(0, 1);
    }

    private static void great() {
        received(SHEETS[5], 1, "5@13 13@6>0 18@6>1 21@0>2", "2 0 1 0 19");
        String fine = "H|9999|1\nP|Ab|m|120|1\n";
        received(fine, 0, "", "2 1 0 1 " + fine.length());
        CensusDesk desk = received("H|10000|100\nP|Ab|m|121|1\n", 0, "5@2 5@8~0 5@19~0 15@0", "2 1 0 1 25", 29, GATHER, 0);
        KIT.due("GREAT numbers stay", Kit.house(desk, 0), "10000 100 1 0 0");
        KIT.due("a GREAT age stays", desk.person(0, 1), 121);
        CensusDesk replaced = received("H|999999|1\nP|Ab|m|121|1\n", 0, "5@2 5@18~0", "2 1 0 1 24", 5, REPLACE, 888888);
        KIT.due("GREAT replaced, number", replaced.house(0, 0), 888888);
        KIT.due("GREAT replaced, age", replaced.person(0, 1), 888888);
        CensusDesk rejected = received("H|10000|1\nP|Ab|m|121|1\n", 0, "5@2 5@17~0", "2 1 0 1 23", 5, REJECT, 5);
        KIT.due("GREAT rejected, number", rejected.house(0, 0), -1);
        KIT.due("GREAT rejected, age", rejected.person(0, 1), -1);
        received("H|1|99\nP|A|m|1|\n", 0, "15@0", "2 1 0 1 16", 15, GATHER, 0);
        received("S|99\nS|100\n", 0, "20@0 5@7", "2 0 0 0 11", 20, GATHER, 0, 5, REJECT, 0);
        received("S|100\n", 0, "5@2", "1 0 0 0 6", 5, REPLACE, 0);
    }

    private static void badSex() {
        received(SHEETS[6], 1, "6@11 13@6>0 18@6>1 21@0>2", "2 0 1 0 18");
        String[] cells = {"x", "", "mm", "mf", "M", "F", "0", " m"};
        for (String cell : cells) {
            String sheet = "H|1|1\nP|Ab|" + cell + "|30|1\n";
            KIT.due("sex " + cell + " gathered", sexBy(sheet, 6, GATHER, 1), -1);
            KIT.due("sex " + cell + " replaced by 0", sexBy(sheet, 6, REPLACE, 0), 0);
            KIT.due("sex " + cell + " replaced by 1", sexBy(sheet, 6, REPLACE, 1), 1);
            KIT.due("sex " + cell + " replaced by 2", sexBy(sheet, 6, REPLACE, 2), -1);
            KIT.due("sex " + cell + " replaced by -1", sexBy(sheet, 6, REPLACE, -1), -1);
            KIT.due("sex " + cell + " rejected", sexBy(sheet, 6, REJECT, 1), -1);
        }
        KIT.due("m", sexBy("H|1|1\nP|Ab|m|30|1\n"), 0);
        KIT.due("f", sexBy("H|1|1\nP|Ab|f|30|1\n"), 1);
    }

    private static int sexBy(String sheet, int... rules) {
        CensusDesk desk = Kit.deskWith(sheet, rules);
        KIT.due(sheet.replace('\n', '/') + " by " + Kit.row(rules), desk.receive(), 0);
        return desk.person(0, 0);
    }

    private static void noTrade() {
        received(SHEETS[7], 1, "7@16 13@6>0 18@6>1 21@0>2", "2 0 1 0 19");
        String[] cells = {"11", "x", " ", "1 ", "-", "123456789"};
        for (String cell : cells) {
            String sheet = "H|1|1\nP|Ab|m|30|" + cell + "\n";
            KIT.due("trade " + cell + " gathered", tradeBy(sheet, 7, GATHER, 5), -1);
            KIT.due("trade " + cell + " replaced", tradeBy(sheet, 7, REPLACE, 999999), 999999);
            KIT.due("trade " + cell + " replaced by -1", tradeBy(sheet, 7, REPLACE, -1), -1);
            KIT.due("trade " + cell + " rejected", tradeBy(sheet, 7, REJECT, 5), -1);
        }
        KIT.due("no trade", tradeBy("H|1|1\nP|Ab|m|30|\n"), 0);
        for (int digit = 0; digit < 10; digit++) {
            KIT.due("trade " + digit, tradeBy("H|1|1\nP|Ab|m|30|" + digit + "\n"), digit);
        }
    }

    private static int tradeBy(String sheet, int... rules) {
        CensusDesk desk = Kit.deskWith(sheet, rules);
        KIT.due(sheet.replace('\n', '/') + " by " + Kit.row(rules), desk.receive(), 0);
        return desk.person(0, 2);
    }

    private static void odd() {
        received(SHEETS[9], 1, "9@18 18@18>0 21@0>1", "3 0 1 0 20");
        int[] ways = {GATHER, REPLACE, REJECT};
        for (int way : ways) received(SHEETS[9], 0, "9@18", "3 1 0 1 20", 9, way, 0);
        received(SHEETS[9], 2, "9@18", "3 1 0 1 20", 9, STOP, 0);
        // A first byte 72 begins a household, and 83 ends one, even of an ODD line.
        CensusDesk desk = received("Hx|1|1\nP|A|m|1|\nSx\nPx\n", 0, "9@0 9@16 9@19~1", "4 1 0 1 22", 9, GATHER, 0);
        KIT.due("a household without its first line", Kit.house(desk, 0), "-1 -1 1 0 0");
        received("Hx|1|1\nP|A|m|1|\n", 0, "9@0 18@0>0", "2 1 0 1 16", 18, GATHER, 0);
        received("H|1|0\n\u0000\n\u00ff\n", 0, "9@6 9@8~0 14@0", "3 1 0 0 10", 9, GATHER, 0, 14, GATHER, 0);
        received("h|1|1\n", 1, "9@0 21@0>0", "1 0 0 0 6");
        received("|\n", 1, "9@0 21@0>0", "1 0 0 0 2");
    }

    private static void fewAndMany() {
        received(SHEETS[10], 1, "10@6 18@6>0 21@0>1", "2 0 1 0 16");
        CensusDesk few = received(SHEETS[10], 0, "10@6", "2 1 0 1 16", 10, GATHER, 0);
        KIT.due("cells that are not there have no signs", Kit.person(few, 0), "0 30 0 2 0");
        received(SHEETS[10], 0, "10@6", "2 1 0 1 16", 10, REPLACE, 9);
        received(SHEETS[10], 1, "10@6 14@0 21@0>1", "2 0 1 0 16", 10, REJECT, 0);
        received("H\nP\n", 0, "10@0 4@1 4@1~1 10@2~0 2@3~1 6@3~1 4@3~1 15@0", "2 1 0 1 4", 29, GATHER, 0);
        received("H|1|1\nP|A\nS", 0, "10@6 6@9 4@9~1 10@10 4@11 20@10", "3 1 0 1 11", 29, GATHER, 0);
        received(SHEETS[11], 1, "11@6 18@6>0 21@0>1", "2 0 1 0 19");
        received(SHEETS[11], 0, "11@6", "2 1 0 1 19", 11, GATHER, 0);
        received(SHEETS[11], 0, "11@6", "2 1 0 1 19", 11, REPLACE, 0);
        // The last cells don't count: nothing in them comes up.
        received("H|1|1|\u0001\nP|A|m|1||x|\u0002|\nS|1|\u0003\n", 0, "11@0 11@8~0 11@22", "3 1 0 1 28", 11, GATHER, 0);
        received(SHEETS[11], 1, "11@6 14@0 21@0>1", "2 0 1 0 19", 11, REJECT, 0);
        CensusDesk first = received("H|1\nP|A|m|1|\n", 0, "10@0", "2 1 0 1 13", 10, REJECT, 0);
        KIT.due("number and told are MISSING", Kit.house(first, 0), "-1 -1 1 0 0");
    }

    private static void child() {
        received(SHEETS[12], 1, "12@6 18@6>0 21@0>1", "2 0 1 0 17");
        received(SHEETS[12], 0, "12@6", "2 1 0 1 17", 12, GATHER, 0);
        received(SHEETS[12], 0, "12@6", "2 1 0 1 17", 12, REPLACE, 0);
        received(SHEETS[12], 1, "12@6 14@0 21@0>1", "2 0 1 0 17", 12, REJECT, 0);
        received("H|1|4\nP|A|m|9|0\nP|B|m|10|1\nP|C|m|x|1\nP|D|m|9|x\n", 0, "4@33 7@45~0",
            "5 1 0 4 47", 25, REJECT, 0);
        received("H|1|1\nP|A|m|x|1\n", 0, "4@12 12@6", "2 1 0 1 16", 4, GATHER, 0, 12, GATHER, 0);
    }

    private static void lostField() {
        received("H|1|1\nP|0|x|y|zz\n", 1, "3@8 13@6>0 18@6>1 21@0>2", "2 0 1 0 17");
        CensusDesk all = received("H|1|1\nP|0|x|y|zz\n", 0,
            "3@8 13@6>0 6@10~0 13@6>2~1 4@12~0 13@6>4~1 7@14~0 13@6>6~1", "2 1 0 1 17", 13, GATHER, 0);
        KIT.due("all are MISSING", Kit.person(all, 0), "-1 -1 -1 0 0");
        received("H|1|1\nP|0|x|y|zz\n", 1, "3@8 13@6>0 14@0 21@0>2", "2 0 1 0 17", 13, REJECT, 0);
        CensusDesk number = received("H|x|1\nP|A|m|1|\n", 0, "4@2 13@0>0", "2 1 0 1 15", 13, REPLACE, 5);
        KIT.due("the number alone is MISSING", Kit.house(number, 0), "-1 1 1 0 0");
        CensusDesk line = received("H|7|x\nP|A|m|1|\n", 0, "4@4 13@0>0", "2 1 0 1 15", 13, REJECT, 5);
        KIT.due("the first LINE is LOST: both are", Kit.house(line, 0), "-1 -1 1 0 0");
    }

    private static void bareToldOrder() {
        received(SHEETS[14], 1, "14@0 21@0>0", "1 0 1 0 6");
        received(SHEETS[14], 0, "14@0", "1 1 0 0 6", 14, GATHER, 0);
        received(SHEETS[14], 0, "14@0", "1 1 0 0 6", 14, REPLACE, 0);
        received(SHEETS[14], 0, "14@0", "1 0 1 0 6", 14, REJECT, 0);
        received(SHEETS[14], 2, "14@0", "1 0 1 0 6", 14, STOP, 0);
        received("H|1|3\n", 0, "14@0 15@0~0", "1 1 0 0 6", 27, GATHER, 0);
        received("H|1|3\n", 0, "14@0", "1 0 1 0 6", 14, REJECT, 0);
        received(SHEETS[15], 1, "15@0 21@0>0", "2 0 1 0 18");
        received(SHEETS[15], 0, "15@0", "2 1 0 1 18", 15, GATHER, 0);
        received(SHEETS[15], 0, "15@0", "2 0 1 0 18", 15, REJECT, 0);
        received("H|1|x\nP|A|m|1|\n", 0, "4@4", "2 1 0 1 15", 4, REJECT, 0);
        received(SHEETS[16], 1, "16@18 21@18>0", "4 1 1 1 36");
        received(SHEETS[16], 0, "16@18", "4 2 0 2 36", 16, GATHER, 0);
        received(SHEETS[16], 0, "16@18", "4 1 1 1 36", 16, REJECT, 0);
        received("H|5|0\nH|x|0\nH|5|0\nH|6|0\nH|4|0\nH|5|0\n", 0,
            "14@0 4@8 14@6 14@12 16@12~3 14@18 14@24 16@24~6 14@30", "6 6 0 0 36", 4, REJECT, 0, 27, GATHER, 0);
        // 9 is LOST, so that 5 is above the latest one that was TAKEN.
        received("H|3|0\nH|9|1\nH|5|0\n", 0, "14@0 14@6 15@6~1 14@12", "3 2 1 0 18", 14, GATHER, 0, 15, REJECT, 0);
        received("H|0|0\nH|0|0\n", 0, "14@0 14@6 16@6~1", "2 2 0 0 12", 27, GATHER, 0);
    }

    private static void twice() {
        received(SHEETS[17], 1, "17@18 18@18>0~0 21@0>1", "3 0 1 0 30");
        received(SHEETS[17], 0, "17@18 18@18>0~0", "3 1 0 1 30", 18, GATHER, 0);
        received(SHEETS[17], 0, "17@18 18@18>0~0", "3 0 1 0 30", 18, REJECT, 0);
        received(SHEETS[17], 0, "17@18 15@0~0", "3 1 0 2 30", 27, GATHER, 0);
        received(SHEETS[17], 0, "17@18 15@0~0", "3 1 0 2 30", 27, REPLACE, 0);
        received(SHEETS[17], 0, "17@18", "3 1 0 1 30", 17, REJECT, 0);
        received(SHEETS[17], 2, "17@18", "3 1 0 1 30", 17, STOP, 0);
        // No name, no age, another age, another name, another household: not TWICE.
        received("H|1|8\nP||m|1|\nP||m|1|\nP|A|m|x|\nP|A|m|x|\nP|A|m|1|\nP|A|m|2|\nP|AA|m|1|\nP|a|m|1|\n"
            + "H|2|1\nP|A|m|1|\n", 0, "2@8 2@16~0 4@28~0 4@37~0", "11 2 0 9 92", 22, GATHER, 0, 4, REJECT, 0);
        // One that was not taken is nobody's like.
        received("H|1|1\nP|A|m|1|5\nP|A|m|1|\n", 0, "12@6", "3 1 0 1 25", 12, REJECT, 0);
        String thirty = "b".repeat(30);
        received("H|1|2\nP|" + thirty + "x|m|1|\nP|" + thirty + "y|m|1|\n", 0, "3@38 3@77~0 17@45", "3 1 0 2 84",
            3, GATHER, 0, 17, GATHER, 0);
        received("H|1|2\nP|A|m|x|\nP|A|m|0|\n", 0, "4@12 17@15", "3 1 0 2 24", 4, GATHER, 0, 17, GATHER, 0);
    }

    private static void lostLine() {
        String sheet = "H|1|1\nX\nP|A|m|1|\nX\nH|2|1\nP|A|m|1|\n";
        received(sheet, 1, "9@6 18@6>0 21@0>1", "2 0 1 0 8");
        received(sheet, 0, "9@6 18@6>0 9@17~0 18@17>2~1", "6 2 0 2 34", 18, GATHER, 0);
        received(sheet, 0, "9@6 18@6>0", "4 1 1 1 34", 18, REJECT, 0);
        CensusDesk stopped = received(sheet, 2, "9@6 18@6>0", "2 0 1 0 19", 18, STOP, 0);
        KIT.due("LOSTLINE stopped, read on", stopped.resume(), 0);
        KIT.due("LOSTLINE stopped, the rest", Kit.sheet(stopped), "4 1 1 1 34");
    }

    private static void straySumLostHouse() {
        received(SHEETS[19], 1, "19@0", "1 0 0 0 12");
        received(SHEETS[19], 1, "19@0", "1 0 0 0 12", 19, REJECT, 0);
        received(SHEETS[19], 0, "19@0", "3 1 0 1 30", 19, GATHER, 0);
        received(SHEETS[19], 0, "19@0", "3 1 0 1 30", 19, REPLACE, 0);
        received(SHEETS[19], 2, "19@0", "1 0 0 0 12", 19, STOP, 0);
        // Nothing else of it is looked at; but if it is ODD.
        received("P\nP|\u0001\nPx\n", 0, "19@0 19@2~0 9@6 21@6>2~0", "3 0 0 0 9", 28, GATHER, 0);
        received("S|0\nP|A|m|1|\nH|1|1\nP|A|m|1|\nS|1\nP|A|m|1|\n", 0, "19@4 19@32~0", "6 1 0 1 41", 19, GATHER, 0);
        received(SHEETS[20], 1, "20@18", "3 1 0 1 22");
        received(SHEETS[20], 1, "20@18", "3 1 0 1 22", 20, REJECT, 0);
        received(SHEETS[20], 0, "20@18", "3 1 0 1 22", 20, GATHER, 0);
        received(SHEETS[20], 2, "20@18", "3 1 0 1 22", 20, STOP, 0);
        received("S|0\nS|1\nH|1|0\nS|1\nS|0\n", 0, "20@4 14@8 20@18~0", "5 1 0 0 22", 20, GATHER, 0, 14, GATHER, 0);
        received("S|x\n", 1, "4@2 13@0>0 21@0>1", "1 0 0 0 4");
        received("S|x\n", 0, "4@2 13@0>0 21@0>1", "1 0 0 0 4", 21, GATHER, 0);
        received("S|x\n", 0, "4@2 13@0>0", "1 0 0 0 4", 13, REJECT, 0);
        received("X\nH|1|0\nH|2|0\n", 0, "9@0 21@0>0 14@2 21@2>2~1 14@8 21@8>4~1", "3 0 2 0 14", 21, GATHER, 0);
        received("X\nH|1|0\nH|2|0\n", 1, "9@0 21@0>0", "1 0 0 0 2", 21, REJECT, 0);
        received("H|1|0\nH|2|0\n", 1, "14@0 21@0>0", "1 0 1 0 6", 21, THROW, 0);
    }
}
