/** Part 2 of the Terms: each KIND at its bounds, one below and one above them, and its PLACE. */
public final class EdgesOfKindsTest {
    private static final Kit KIT = new Kit("EdgesOfKindsTest");
    private static final int GATHER = 1, REPLACE = 2, REJECT = 3;
    private static final String ONE = "H|1|1\nP|A|m|1|\n";

    public static void main(String[] args) {
        foreignBytes();
        foreignInEachCell();
        emptyNames();
        signsOfNames();
        lengthsOfNames();
        placesOfBadNames();
        lengthsOfNumbers();
        signsOfNumbers();
        greatNumbers();
        sexes();
        trades();
        lostSigns();
        odd();
        fewAndMany();
        cellsThatAreNotThere();
        children();
        lostFields();
        bare();
        told();
        order();
        twice();
        lostLines();
        stray();
        sums();
        lostHouses();
        KIT.finish();
    }

    /** A household of one person with these cells: its LINE is at 6, its name at 8. */
    private static String person(String cells) {
        return "H|1|1\nP|" + cells + "\n";
    }

    /** "1 FOREIGN: a byte of a cell that is not 32 .. 126." */
    private static void foreignBytes() {
        for (int sign = 0; sign < 256; sign++) {
            if (sign == 10 || sign == 124) continue;
            CensusDesk desk = Kit.deskWith(person("A" + (char) sign + "|m|1|"), 29, GATHER, 0);
            desk.receive();
            KIT.due("FOREIGN by byte " + sign, desk.many(1), sign < 32 || sign > 126 ? 1 : 0);
        }
    }

    /** PLACES: "of 1, 3 that byte". */
    private static void foreignInEachCell() {
        String[] foreign = {"\u001f", "\u007f", "\u0000", "\u00ff"};
        for (String one : foreign) {
            KIT.comeUp("H|" + one + "1|" + one + "1\nP|" + one + "A|" + one + "m|" + one + "1|" + one + "0\nS|" + one + "1\n",
                "1@2 1@5~0 1@10~0 1@13~0 1@16~0 1@19~0 1@24", 1, REJECT, 0);
            KIT.comeUp("H|1" + one + "|1" + one + "\nP|A" + one + "|m" + one + "|1" + one + "|0" + one + "\nS|1" + one + "\n",
                "1@3 1@6~0 1@11~0 1@14~0 1@17~0 1@20~0 1@25", 1, REJECT, 0);
        }
        // Nothing of an ODD, STRAY or lost LINE is looked at, nor cells that don't count.
        KIT.comeUp("X|\u0001\nP|\u0001\n" + ONE + "X\u0001\n", "9@0 19@4 9@23", 29, GATHER, 0);
        KIT.comeUp("H|1|1|\u0001\nP|A|m|1||\u0001\n", "11@0 11@8~0", 11, GATHER, 0);
        KIT.comeUp("H|1|1|\u0001\nP|A|m|1|\n", "11@0", 11, REJECT, 0);
    }

    /** "2 EMPTY: a name without signs." */
    private static void emptyNames() {
        KIT.comeUp(person("|m|1|"), "2@8", 2, GATHER, 0);
        KIT.comeUp(person("A|m|1|"), "");
        KIT.comeUp(person(" |m|1|"), "");
        KIT.comeUp(person("-|m|1|"), "");
        KIT.comeUp(person("\u0001|m|1|"), "1@8 2@8", 1, REJECT, 0, 2, GATHER, 0);
        KIT.comeUp(person("\u0001|m|1|"), "1@8", 1, REPLACE, 65);
    }

    /** "3 BADNAME: its first sign that is no letter (a .. z, A .. Z), 32 or 45 .." */
    private static void signsOfNames() {
        String[] good = {"A", "B", "Y", "Z", "a", "b", "y", "z", " ", "-"};
        for (String sign : good) KIT.comeUp(person("A" + sign + "|m|1|"), "");
        String[] bad = {"@", "[", "`", "{", "!", ",", ".", "0", "9", "_", "~", "'", "?"};
        for (String sign : bad) {
            KIT.comeUp(person("A" + sign + "|m|1|"), "3@9", 3, GATHER, 0);
            KIT.comeUp(person(sign + "|m|1|"), "3@8", 3, GATHER, 0);
        }
        KIT.comeUp(person("A\u001f|m|1|"), "1@9 3@9", 1, GATHER, 0, 3, GATHER, 0);
        KIT.comeUp(person("A\u001f|m|1|"), "1@9 3@9", 1, REPLACE, 48, 3, GATHER, 0);
    }

    /** ".. or is the 31st." */
    private static void lengthsOfNames() {
        int[] lengths = {1, 29, 30, 31, 32, 60};
        for (int length : lengths) {
            String name = "ab".repeat(30).substring(0, length);
            CensusDesk desk = Kit.deskWith(person(name + "|m|1|"), 3, GATHER, 0);
            KIT.due("a name of " + length, desk.receive(), 0);
            KIT.due("its failures", Kit.failures(desk), length > 30 ? "3@38" : "");
            KIT.due("its signs", Kit.name(desk, 0), name.substring(0, Math.min(30, length)));
            KIT.due("how many", desk.person(0, 3), Math.min(30, length));
            KIT.due("the last", desk.sign(0, Math.min(30, length) - 1), name.charAt(Math.min(30, length) - 1));
            KIT.due("none behind it", desk.sign(0, Math.min(30, length)), 0);
        }
    }

    private static void placesOfBadNames() {
        String thirty = "a".repeat(30);
        KIT.comeUp(person("a".repeat(29) + "0b|m|1|"), "3@37", 3, GATHER, 0);
        KIT.comeUp(person(thirty + "0|m|1|"), "3@38", 3, GATHER, 0);
        KIT.comeUp(person("0" + thirty + "|m|1|"), "3@8", 3, GATHER, 0);
        KIT.comeUp(person("a1b2c3|m|1|"), "3@9", 3, GATHER, 0);
        // Signs that are LOST are not counted, those that are replaced are; places are those of bytes.
        KIT.comeUp(person("\u0001" + thirty + "|m|1|"), "1@8", 1, REJECT, 0);
        KIT.comeUp(person("\u0001" + thirty + "b|m|1|"), "1@8 3@39", 1, REJECT, 0, 3, GATHER, 0);
        KIT.comeUp(person("\u0001" + thirty + "|m|1|"), "1@8 3@38", 1, REPLACE, 65, 3, GATHER, 0);
        KIT.comeUp(person(thirty + "\u0001|m|1|"), "1@38", 1, REJECT, 0);
        KIT.comeUp(person(thirty + "\u0001|m|1|"), "1@38 3@38", 1, REPLACE, 65, 3, GATHER, 0);
        KIT.comeUp(person("\u0001\u00010|m|1|"), "1@8 1@9~0 3@10", 1, REJECT, 0, 3, GATHER, 0);
    }

    /** "4 BADNUMBER: no signs, .. or more than six." "at most six (0 without)" */
    private static void lengthsOfNumbers() {
        String[] digits = {"", "7", "00007", "000007", "0000007", "1234567", "7000000", "00000007"};
        int[] gathered = {0, 7, 7, 7, 0, 123456, 700000, 0};
        for (int k = 0; k < digits.length; k++) {
            boolean isBad = digits[k].isEmpty() || digits[k].length() > 6;
            CensusDesk desk = Kit.deskWith("H|" + digits[k] + "|" + digits[k] + "\nP|A|m|" + digits[k] + "|\n",
                4, GATHER, 0, 15, GATHER, 0);
            KIT.due("digits " + digits[k], desk.receive(), 0);
            KIT.due("BADNUMBER by " + digits[k], desk.many(4), isBad ? 3 : 0);
            KIT.due("GREAT is not asked of it", desk.many(5), 0);
            String due = Kit.row(gathered[k], gathered[k], gathered[k]);
            KIT.due("gathered " + digits[k], Kit.row(desk.house(0, 0), desk.house(0, 1), desk.person(0, 1)), due);
        }
        KIT.comeUp("S|\n", "4@2", 4, GATHER, 0);
        KIT.comeUp("S|0\n", "");
        KIT.comeUp("S|000000\n", "");
        KIT.comeUp("S|0000000\n", "4@2", 4, GATHER, 0);
        KIT.comeUp("S|0000001\n", "4@2", 4, GATHER, 0);
        KIT.comeUp("S|1000000\n", "4@2 20@0", 4, GATHER, 0, 20, GATHER, 0);
        // Six digits behind signs that are LOST are six.
        KIT.comeUp("S|\u0001000\u0001000\u0001\n", "1@2 1@6~0 1@10~0", 1, REJECT, 0);
    }

    /** ".. one that is no digit ..": "the number that its digits make up to the first sign that is none" */
    private static void signsOfNumbers() {
        String[] bad = {"/", ":", " ", "-", "+", ".", "x", "\u00b2"};
        for (String sign : bad) {
            String[] cells = {sign, sign + "12", "1" + sign + "2", "12" + sign, "12345" + sign, "123456" + sign, "1234567" + sign};
            int[] gathered = {0, 0, 1, 12, 12345, 123456, 123456};
            for (int k = 0; k < cells.length; k++) {
                CensusDesk desk = Kit.deskWith(person("A|m|" + cells[k] + "|"), 1, GATHER, 0, 4, GATHER, 0);
                KIT.due("age " + Kit.shown(cells[k]), desk.receive() + " " + desk.many(4), "0 1");
                KIT.due("age " + Kit.shown(cells[k]) + " gathered", desk.person(0, 1), gathered[k]);
                KIT.due("its place", desk.failure(desk.failures() - 1, 1), 12);
            }
        }
        for (char digit = '0'; digit <= '9'; digit++) {
            CensusDesk desk = Kit.deskWith(person("A|m|" + digit + "|"));
            KIT.due("age " + digit, desk.receive() + " " + desk.person(0, 1), "0 " + digit);
        }
    }

    /** "5 GREAT: a number above 9999 (of a household), 99 (told), 120 (age)." */
    private static void greatNumbers() {
        int[] numbers = {9998, 9999, 10000, 10001, 99999, 100000, 999999};
        for (int n : numbers) KIT.comeUp("H|" + n + "|1\nP|A|m|1|\n", n > 9999 ? "5@2" : "", 5, GATHER, 0);
        int[] told = {98, 99, 100, 101, 120, 121, 9999, 999999};
        for (int n : told) {
            KIT.comeUp("H|1|" + n + "\nP|A|m|1|\n", n > 99 ? "5@4 15@0" : "15@0", 5, GATHER, 0, 15, GATHER, 0);
            KIT.comeUp("S|" + n + "\n", n > 99 ? "5@2 20@0" : "20@0", 5, GATHER, 0, 20, GATHER, 0);
        }
        int[] ages = {99, 100, 119, 120, 121, 122, 9999, 999999};
        for (int n : ages) KIT.comeUp(person("A|m|" + n + "|"), n > 120 ? "5@12" : "", 5, GATHER, 0);
        KIT.comeUp("H|1000000|1\nP|A|m|1|\n", "4@2", 4, GATHER, 0);
        KIT.comeUp(person("A|m|000121|"), "5@12", 5, GATHER, 0);
        KIT.comeUp(person("A|m|000120|"), "");
    }

    /** "6 BADSEX: not just m or f." */
    private static void sexes() {
        KIT.comeUp(person("A|m|1|"), "");
        KIT.comeUp(person("A|f|1|"), "");
        String[] bad = {"", "l", "n", "e", "g", "M", "F", "mm", "ff", "mf", "fm", "m ", " f", "0", "1"};
        for (String cell : bad) KIT.comeUp(person("A|" + cell + "|1|"), "6@10", 6, GATHER, 0);
        KIT.comeUp(person("A|\u0001m\u0001|1|"), "1@10 1@12~0", 1, REJECT, 0);
        KIT.comeUp(person("A|\u0001|1|"), "1@10 6@10", 1, REJECT, 0, 6, GATHER, 0);
        KIT.comeUp(person("A|\u0001|1|"), "1@10", 1, REPLACE, 'f');
    }

    /** "7 NOTRADE: neither no signs nor just one digit." */
    private static void trades() {
        KIT.comeUp(person("A|m|10|"), "");
        for (int digit = 0; digit <= 9; digit++) KIT.comeUp(person("A|m|10|" + digit), "");
        String[] bad = {"/", ":", " ", "x", "00", "10", "01", "1 ", "-1"};
        for (String cell : bad) KIT.comeUp(person("A|m|10|" + cell), "7@15", 7, GATHER, 0);
        KIT.comeUp(person("A|m|10|\u0001"), "1@15", 1, REJECT, 0);
        KIT.comeUp(person("A|m|10|\u0001" + "5\u0001"), "1@15 1@17~0", 1, REJECT, 0);
        KIT.comeUp(person("A|m|10|\u0001" + "55"), "1@15 7@15", 1, REJECT, 0, 7, GATHER, 0);
    }

    /** "8 LOSTSIGN: a sign was thrown." PLACES: "the first byte of the cell". */
    private static void lostSigns() {
        KIT.comeUp(person("Ab\u0001|m|1|"), "1@10 8@8>0", 8, GATHER, 0);
        KIT.comeUp(person("Ab\u0001|m|1|"), "1@10", 1, REJECT, 0);
        KIT.comeUp(person("A|m|1\u0001|"), "1@13 8@12>0", 8, GATHER, 0);
        KIT.comeUp("H|1\u0001|\u00011\n", "1@3 8@2>0 1@5~0 8@5>2~1 14@0 15@0~4", 8, GATHER, 0, 14, GATHER, 0, 15, GATHER, 0);
        KIT.comeUp("S|0\u0001\u0002", "1@3 8@2>0 1@4~0 8@2>2~1", 8, GATHER, 0);
    }

    /** "9 ODD: the first byte is not 72, 80, 83, or another byte than 124 is behind it". */
    private static void odd() {
        for (int second = 0; second < 256; second++) {
            if (second == 10) continue;
            CensusDesk desk = Kit.deskWith(ONE + "P" + (char) second + "B|m|1|\n", 29, GATHER, 0);
            desk.receive();
            KIT.due("ODD by second byte " + second, desk.many(9), second == 124 ? 0 : 1);
        }
        String[] sorts = {"H", "P", "S"};
        for (String sort : sorts) {
            CensusDesk alone = Kit.deskWith(ONE + sort + "\n", 29, GATHER, 0);
            alone.receive();
            KIT.due(sort + " alone is FEW, not ODD", Kit.row(alone.many(9), alone.many(10), alone.failure(0, 1)), "0 1 15");
            CensusDesk two = Kit.deskWith(ONE + sort + sort + "\n", 29, GATHER, 0);
            two.receive();
            KIT.due(sort + " twice is ODD, not FEW", Kit.row(two.many(9), two.many(10), two.failure(0, 1)), "1 0 15");
        }
    }

    /** "10 FEW, 11 MANY: it has fewer, more cells than its sort has." */
    private static void fewAndMany() {
        int[] cellsOf = {3, 5, 2};
        String[] sorts = {"H", "P", "S"};
        for (int sort = 0; sort < 3; sort++) {
            for (int cells = 1; cells <= 8; cells++) {
                CensusDesk desk = Kit.deskWith(ONE + sorts[sort] + "|0".repeat(cells - 1) + "\n", 29, GATHER, 0);
                desk.receive();
                String due = cells < cellsOf[sort] ? "1 0" : cells > cellsOf[sort] ? "0 1" : "0 0";
                KIT.due(sorts[sort] + " with " + cells + " cells", Kit.row(desk.many(10), desk.many(11)), due);
                KIT.due(sorts[sort] + " with " + cells + " cells: not ODD", desk.many(9), 0);
            }
        }
    }

    /** PLACES: "(where it would be: of one that is not there the end of the LINE)" */
    private static void cellsThatAreNotThere() {
        KIT.comeUp("H|1|1\nP\n", "10@6 2@7 6@7~1 4@7~1", 29, GATHER, 0);
        KIT.comeUp("H|1|1\nP|\n", "10@6 2@8 6@8~1 4@8~1", 29, GATHER, 0);
        KIT.comeUp("H|1|1\nP|Ab\n", "10@6 6@10 4@10~1", 29, GATHER, 0);
        KIT.comeUp("H|1|1\nP|Ab|\n", "10@6 6@11 4@11~1", 29, GATHER, 0);
        KIT.comeUp("H|1|1\nP|Ab|m\n", "10@6 4@12", 29, GATHER, 0);
        KIT.comeUp("H|1|1\nP|Ab|m|1\n", "10@6", 29, GATHER, 0);
        KIT.comeUp("H\n", "10@0 4@1 4@1~1 14@0", 29, GATHER, 0);
        KIT.comeUp("H|12", "10@0 4@4 14@0", 29, GATHER, 0);
        KIT.comeUp(ONE + "S", "10@15 4@16 20@15", 29, GATHER, 0);
    }

    /** "12 CHILD: age known and below 10, trade known and above 0." */
    private static void children() {
        String[] ages = {"0", "8", "9", "10", "11"};
        String[] trades = {"", "0", "1", "2", "9"};
        for (int a = 0; a < ages.length; a++) {
            for (int t = 0; t < trades.length; t++) {
                KIT.comeUp(person("A|m|" + ages[a] + "|" + trades[t]), a < 3 && t > 1 ? "12@6" : "", 12, GATHER, 0);
            }
        }
        KIT.comeUp(person("A|m|x|1"), "4@12", 4, REJECT, 0);
        KIT.comeUp(person("A|m|9|x"), "7@14", 7, REJECT, 0);
        KIT.comeUp(person("A|m|9|x"), "7@14 12@6", 7, REPLACE, 1, 12, GATHER, 0);
        KIT.comeUp(person("A|m|9|x"), "7@14", 7, REPLACE, 0);
        KIT.comeUp(person("A|m|9|x"), "7@14", 7, REPLACE, -1);
        KIT.comeUp(person("A|m|x|1"), "4@12 12@6", 4, REPLACE, 9, 12, GATHER, 0);
        KIT.comeUp(person("A|m|x|1"), "4@12", 4, REPLACE, 10);
        KIT.comeUp(person("A|m|x|1"), "4@12", 4, REPLACE, -1);
        KIT.comeUp(person("A|m|121|1"), "5@12 12@6", 5, REPLACE, 0, 12, GATHER, 0);
    }

    /** "13 LOSTFIELD: a field was thrown." PLACES: "the first byte of the LINE". */
    private static void lostFields() {
        KIT.comeUp(person("0|x|x|x"), "3@8 13@6>0 6@10~0 13@6>2~1 4@12~0 13@6>4~1 7@14~0 13@6>6~1", 13, GATHER, 0);
        KIT.comeUp(person("0|x|x|x"), "3@8 6@10~0 4@12~0 7@14~0", 25, REJECT, 0);
        KIT.comeUp("H|x|x\nP|A|m|1|\nS|x\n", "4@2 13@0>0 4@4~0 13@0>2~1 4@17 13@15>4", 13, GATHER, 0);
    }

    /** "14 BARE: no PERSONS were taken into it." PLACES: "the first byte of the HOUSEHOLD". */
    private static void bare() {
        KIT.comeUp(ONE + "H|2|0\n", "14@15", 14, GATHER, 0);
        KIT.comeUp(ONE + "H|2|1\nP|B|m|1|\n", "");
        KIT.comeUp(ONE + "\nH|2|0\nP|B|m|1|1\n", "12@22 14@16", 12, REJECT, 0, 14, GATHER, 0);
        KIT.comeUp(ONE + "H|2|0\nX\n", "9@21 14@15", 9, GATHER, 0, 14, GATHER, 0);
        KIT.comeUp("P|A|m|1|\nH|2|0\n", "19@0 14@9", 19, GATHER, 0, 14, GATHER, 0);
    }

    /** "15 TOLD: told is known, and not how many were taken." */
    private static void told() {
        String two = "P|A|m|1|\nP|B|m|1|\n";
        for (int n = 0; n <= 4; n++) KIT.comeUp("\nH|1|" + n + "\n" + two, n == 2 ? "" : "15@1", 15, GATHER, 0);
        KIT.comeUp("H|1|0\n", "14@0", 14, GATHER, 0, 15, GATHER, 0);
        KIT.comeUp("H|1|1\n", "14@0 15@0~0", 14, GATHER, 0, 15, GATHER, 0);
        KIT.comeUp("H|1|x\n" + two, "4@4", 4, REJECT, 0);
        KIT.comeUp("H|1|x\n" + two, "4@4", 4, REPLACE, -1);
        KIT.comeUp("H|1|x\n" + two, "4@4", 4, REPLACE, 2);
        KIT.comeUp("H|1|x\n" + two, "4@4 15@0", 4, REPLACE, 3, 15, GATHER, 0);
        // Those that are not taken are not counted; those that are TWICE and gathered are.
        KIT.comeUp("H|1|2\n" + two + "X\nP|A|m|2|1\n", "9@24 12@26~0", 26, REJECT, 0);
        KIT.comeUp("H|1|2\n" + two + "P|A|m|1|\n", "17@24", 17, REJECT, 0);
        KIT.comeUp("H|1|3\n" + two + "P|A|m|1|\n", "17@24", 17, GATHER, 0);
    }

    /** "16 ORDER: .. not above that of the latest household of the sheet that was TAKEN with a known number." */
    private static void order() {
        for (int n = 3; n <= 7; n++) {
            KIT.comeUp("H|5|0\nH|" + n + "|0\n", n > 5 ? "14@0 14@6" : "14@0 14@6 16@6~1", 27, GATHER, 0);
        }
        KIT.comeUp("H|0|0\n", "14@0", 27, GATHER, 0);
        KIT.comeUp("H|0|0\nH|0|0\n", "14@0 14@6 16@6~1", 27, GATHER, 0);
        // The latest, not the highest; one whose number is not known is passed by; one that is LOST, too.
        KIT.comeUp("H|5|0\nH|3|0\nH|4|0\n", "14@0 14@6 16@6~1 14@12", 27, GATHER, 0);
        KIT.comeUp("H|5|0\nH|x|0\nH|5|0\n", "14@0 4@8 14@6 14@12 16@12~3", 27, GATHER, 0, 4, REJECT, 0);
        KIT.comeUp("H|x|0\nH|0|0\n", "4@2 14@0 14@6", 27, GATHER, 0, 4, REJECT, 0);
        KIT.comeUp("H|5|0\nH|9|1\nH|6|0\n", "14@0 14@6 15@6~1 14@12", 27, GATHER, 0, 15, REJECT, 0);
        KIT.comeUp("H|5|0\nH|3|0\nH|4|0\n", "14@0 14@6 16@6~1 14@12 16@12~3", 27, GATHER, 0, 16, REJECT, 0);
        KIT.comeUp("H|5|0\nS|1\nH|5|0\n", "14@0 14@10 16@10~1", 27, GATHER, 0);
        CensusDesk desk = Kit.deskWith("H|5|0\n", 14, GATHER, 0);
        desk.receive();
        KIT.due("of the sheet: the next one begins anew", desk.receive() + " " + desk.many(16), "0 0");
    }

    /** "17 TWICE: a person with the name (of one sign at least) and age (known) of one that was taken into it." */
    private static void twice() {
        String a = "P|A|m|1|\n";
        KIT.comeUp("H|1|2\n" + a + "P|A|f|1|0\n", "17@15", 17, GATHER, 0);
        KIT.comeUp("H|1|2\n" + a + "P|A|m|2|\n", "");
        KIT.comeUp("H|1|2\n" + a + "P|A|m|0|\n", "");
        KIT.comeUp("H|1|2\n" + a + "P|a|m|1|\n", "");
        KIT.comeUp("H|1|2\n" + a + "P|A |m|1|\n", "");
        KIT.comeUp("H|1|2\nP|AB|m|1|\nP|AC|m|1|\n", "");
        KIT.comeUp("H|1|2\nP||m|1|\nP||m|1|\n", "2@8 2@16~0", 2, GATHER, 0);
        KIT.comeUp("H|1|2\nP|A|m|x|\nP|A|m|x|\n", "4@12 4@21~0", 4, REJECT, 0);
        KIT.comeUp("H|1|2\nP|A|m|x|\nP|A|m|x|\n", "4@12 4@21~0 17@15", 4, REPLACE, 0, 17, GATHER, 0);
        // Into it: not into another; that was taken: not one that was LOST.
        KIT.comeUp("H|1|1\n" + a + "H|2|1\n" + a, "");
        KIT.comeUp("H|1|1\nP|A|m|1|1\n" + a, "12@6", 12, REJECT, 0);
        KIT.comeUp("H|1|1\n" + a + a + a, "17@15 17@24~0", 17, REJECT, 0);
        KIT.comeUp("H|1|3\n" + a + "P|B|m|1|\n" + a, "17@24", 17, GATHER, 0);
        // It comes up once, be there one like it or more.
        KIT.comeUp("H|1|3\n" + a + a + a, "17@15 17@24~0", 17, GATHER, 0);
        String thirty = "b".repeat(29);
        KIT.comeUp("H|1|2\nP|" + thirty + "x|m|1|\nP|" + thirty + "y|m|1|\n", "");
        KIT.comeUp("H|1|2\nP|" + thirty + "x|m|1|\nP|" + thirty + "x|m|1|\n", "17@44", 17, GATHER, 0);
    }

    /** "18 LOSTLINE: a line of it was thrown." PLACES: "the first byte of the LINE". */
    private static void lostLines() {
        KIT.comeUp("H|1|1\nX\nP|A|m|1|\nX\n", "9@6 18@6>0 9@17~0 18@17>2~1", 18, GATHER, 0);
        KIT.comeUp("Hx\nP|A|m|1|\n", "9@0 18@0>0", 18, GATHER, 0);
        KIT.comeUp("H|1|1\nX\nP|A|m|1|\n", "9@6", 9, REJECT, 0);
        // Outside all there is none.
        KIT.comeUp("X\n" + ONE + "S|1\nX\n", "9@0 21@0>0 9@21~0 21@21>2~1", 21, GATHER, 0);
    }

    /** "19 STRAY: a LINE of a person ahead of all households (or behind a LINE of SUMS)." */
    private static void stray() {
        KIT.comeUp("P|A|m|1|\n" + ONE, "19@0", 19, GATHER, 0);
        KIT.comeUp(ONE + "P|B|m|1|\n", "15@0", 15, GATHER, 0);
        KIT.comeUp(ONE + "S|1\nP|B|m|1|\n", "19@19", 19, GATHER, 0);
        KIT.comeUp(ONE + "S|1\n\nX\nP|B|m|1|\nP|C|m|1|\n", "9@20 19@22 19@31~1", 29, GATHER, 0);
        KIT.comeUp(ONE + "S|1\nH|2|1\nP|B|m|1|\n", "");
        KIT.comeUp("S|0\nP|B|m|1|\n", "19@4", 19, GATHER, 0);
        KIT.comeUp("Px\nP\nP|\u0001|||||\n", "9@0 19@3 19@5~1", 29, GATHER, 0);
    }

    /** "20 SUM: told .. is known, and not how many households of the sheet were TAKEN so far." */
    private static void sums() {
        String two = "H|1|0\nH|2|0\n";
        for (int n = 0; n <= 4; n++) {
            KIT.comeUp(two + "S|" + n + "\nH|3|0\n", n == 2 ? "14@0 14@6 14@16" : "14@0 14@6 20@12 14@16", 29, GATHER, 0);
        }
        KIT.comeUp("S|0\n", "");
        KIT.comeUp("S|1\n", "20@0", 20, GATHER, 0);
        KIT.comeUp("S|x\n", "4@2", 4, REJECT, 0);
        KIT.comeUp("S|x\n", "4@2", 4, REPLACE, -1);
        KIT.comeUp("S|x\n", "4@2 20@0", 4, REPLACE, 1, 20, GATHER, 0);
        // Those that are LOST are not TAKEN; those of the sheet ahead of it are not of the sheet.
        KIT.comeUp("H|1|0\n" + ONE + "S|1\n", "14@0", 14, REJECT, 0);
        KIT.comeUp("H|1|0\n" + ONE + "S|2\n", "14@0 20@21", 14, REJECT, 0, 20, GATHER, 0);
        CensusDesk desk = Kit.deskWith(ONE + "S|1\n");
        desk.receive();
        KIT.due("the next sheet counts anew", desk.receive() + " " + desk.many(20), "0 0");
    }

    /** "21 LOSTHOUSE: a household was thrown, or a LINE outside all households." */
    private static void lostHouses() {
        KIT.comeUp("\nX\n\nH|1|0\n" + ONE, "9@1 21@1>0 14@4 21@4>2~1", 21, GATHER, 0);
        KIT.comeUp("\nX\n\nH|1|0\n" + ONE, "9@1 14@4", 9, REJECT, 0, 14, REJECT, 0);
        KIT.comeUp("\nH|1|1\nX\n" + ONE, "9@7 18@7>0 21@1>1", 21, GATHER, 0);
        KIT.comeUp("\nH|1|1\nX\n" + ONE, "9@7 18@7>0", 18, REJECT, 0);
    }
}
