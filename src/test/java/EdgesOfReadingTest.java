/** Part 3 of the Terms: what is asked in which order, what is LOST, where reading is and where it stops. */
public final class EdgesOfReadingTest {
    private static final Kit KIT = new Kit("EdgesOfReadingTest");
    private static final int GATHER = 1, REPLACE = 2, REJECT = 3, STOP = 4;
    private static final String ONE = "H|1|1\nP|A|m|1|\n";

    public static void main(String[] args) {
        orderInALine();
        orderAtAHouseholdsEnd();
        aSignThatIsLost();
        aFieldThatIsLost();
        aLineThatIsLost();
        aHouseholdThatIsLost();
        aFirstLineThatIsLost();
        personsThatAreTaken();
        nothingIsLeftOfOthers();
        linesOutsideAll();
        linesOfSums();
        whereReadingIsBehindALine();
        whereReadingIsAtAHouseholdsEnd();
        stopsOfOneHousehold();
        stopsBehindTheLastHousehold();
        stopsOfLinesOutside();
        noMoreIsRead();
        heldAgain();
        KIT.finish();
    }

    /** The answers of receive() and of resume() up to the end, each with what sheet() tells then. */
    private static CensusDesk runs(String sheet, int[] rules, String... due) {
        CensusDesk desk = Kit.deskWith(sheet, rules);
        String call = Kit.shown(sheet) + " by " + Kit.row(rules);
        for (int n = 0; n < due.length; n++) {
            KIT.due(call + ", step " + n, (n == 0 ? desk.receive() : desk.resume()) + ": " + Kit.sheet(desk), due[n]);
            KIT.due(call + ", audit " + n, desk.audit(), 0);
        }
        KIT.due(call + ", none is held", desk.resume(), -1);
        return desk;
    }

    private static int[] rules(int... rules) {
        return rules;
    }

    /** "if it is ODD; then FEW, MANY; then its fields, from the left: of each, its bytes .. then what its signs are; then CHILD." */
    private static void orderInALine() {
        KIT.comeUp("H|1|0\nPx\n", "9@6 14@0", 29, GATHER, 0);
        KIT.comeUp("H|1|0\nPx|||||||\n", "9@6 14@0", 29, GATHER, 0);
        KIT.comeUp("H|1|1\nP|0\u0001\n", "10@6 1@9 3@8 6@10~2 4@10~2", 29, GATHER, 0);
        KIT.comeUp("H|1|1\nP|\u00010\u0002|\u0003x|\u00045\u0005|\u00066\u0007|\n",
            "11@6 1@8 1@10~1 3@8 1@12~1 6@12~3 1@15~1 1@17~1 4@15~3 1@19~1 1@21~1 7@19~3", 29, GATHER, 0);
        KIT.comeUp("H|1|1\nP|0|x|5x|1\n", "3@8 6@10~0 4@12~0 12@6", 29, GATHER, 0);
        // TWICE is asked of a LINE that is not LOST, behind CHILD.
        KIT.comeUp("H|1|2\nP|A|m|5|1\nP|A|m|5|1\n", "12@6 12@16~0 17@16", 29, GATHER, 0);
        KIT.comeUp("H|1|1\nP|A|m|5|\nP|A|m|5|1\n", "12@15", 12, REJECT, 0);
        // GREAT is asked behind BADNUMBER, and not of what is one.
        KIT.comeUp("H|1|1\nP|A|m|999x|\n", "4@12", 4, GATHER, 0);
    }

    /** "At its end, if it is not LOST: BARE, TOLD, ORDER; then it is TAKEN, if it is still not LOST." */
    private static void orderAtAHouseholdsEnd() {
        String sheet = "H|1|0\nH|1|1\n";
        KIT.received(sheet, 0, "14@0 14@6 15@6~1 16@6~1", "2 2 0 0 12", 27, GATHER, 0);
        KIT.received(sheet, 0, "14@0 14@6 15@6~1 16@6~1", "2 1 1 0 12", 27, GATHER, 0, 16, REJECT, 0);
        KIT.received(sheet, 0, "14@0 14@6 15@6~1", "2 1 1 0 12", 27, GATHER, 0, 15, REJECT, 0);
        KIT.received(sheet, 0, "14@0 14@6", "2 0 2 0 12", 27, GATHER, 0, 14, REJECT, 0);
        KIT.received("H|1|0\nX\n" + "H|1|1\n", 0, "9@6 18@6>0 14@8 15@8~2", "3 1 1 0 14", 14, GATHER, 0, 15, GATHER, 0, 18, REJECT, 0);
    }

    /** "a sign is left out" */
    private static void aSignThatIsLost() {
        CensusDesk desk = KIT.received("H|\u00011|1\u0001\nP|\u0001A\u0002b\u0003|\u0001f|1\u00012|\u00013\n", 0,
            "1@2 1@6~0 1@10~0 1@12~0 1@14~0 1@16~0 1@20~0 1@23~0", "2 1 0 1 26", 1, REJECT, 0);
        KIT.due("the others stay", Kit.house(desk, 0) + ", " + Kit.person(desk, 0) + " " + Kit.name(desk, 0), "1 1 1 0 0, 1 12 3 2 0 Ab");
    }

    /** "a field is MISSING, and no more of it is looked at" */
    private static void aFieldThatIsLost() {
        String sheet = "H|1|1\nP|\u00010\u0002|m|1\u0003x|\n";
        CensusDesk desk = KIT.received(sheet, 0, "1@8 8@8>0 1@15~0 8@14>2~1", "2 1 0 1 19", 8, REJECT, 0);
        KIT.due("name and age are MISSING", Kit.person(desk, 0), "0 -1 0 0 0");
        CensusDesk thrown = KIT.received(sheet, 0, "1@8 8@8>0 13@6>1 1@15~0 8@14>3~1 13@6>4~2", "2 1 0 1 19", 13, GATHER, 0);
        KIT.due("the other fields are read", Kit.person(thrown, 0), "0 -1 0 0 0");
        KIT.comeUp(sheet, "1@8 8@8>0 1@10~0 8@8>2~1 3@9~1 1@15~0 8@14>5~1 4@14~1", 8, GATHER, 0, 3, REJECT, 0, 4, REJECT, 0);
    }

    /** "a line is left out, likewise" */
    private static void aLineThatIsLost() {
        String sheet = "H|1|0\nP|0|x|x|x\n";
        KIT.received(sheet, 0, "3@8 13@6>0 14@0", "2 1 0 0 16", 13, REJECT, 0, 14, GATHER, 0);
        KIT.received(sheet, 0, "3@8 13@6>0 18@6>1 14@0~2", "2 1 0 0 16", 18, GATHER, 0, 14, GATHER, 0);
        KIT.received("H|1|0\nP|0|x\n", 0, "10@6 14@0", "2 1 0 0 12", 10, REJECT, 0, 14, GATHER, 0);
        KIT.received("H|1|0\nP|0|x|x|x|x\n", 0, "11@6 14@0", "2 1 0 0 18", 11, REJECT, 0, 14, GATHER, 0);
        KIT.received("S|x|x\n", 0, "11@0", "1 0 0 0 6", 11, REJECT, 0);
        KIT.received("S|7|x\n", 0, "11@0", "1 0 0 0 6", 11, REJECT, 0);
    }

    /** "a household is LOST, the rest of its LINES is passed over, and nothing else is asked of it" */
    private static void aHouseholdThatIsLost() {
        String sheet = "H|1|9\nX\nX\nP|0|x|x|x\n\nPx\nQ\n";
        KIT.received(sheet + "H|2|1\nP|A|m|1|\n", 0, "9@6 18@6>0", "4 1 1 1 41", 18, REJECT, 0);
        KIT.received(sheet + "S|0\n", 0, "9@6 18@6>0 21@0>1", "3 0 1 0 30", 21, GATHER, 0);
        KIT.received(sheet, 0, "9@6 18@6>0 21@0>1", "2 0 1 0 26", 21, GATHER, 0);
        KIT.received(sheet, 0, "9@6 18@6>0 9@8~0 18@8>2~1 3@12 6@14~4 4@16~4 7@18~4 9@21~0 18@21>8~1 9@24~0 18@24>10~1 15@0~1",
            "6 1 0 1 26", 29, GATHER, 0, 9, 0, 0);
    }

    /** "A household whose first LINE is LOST has number and told MISSING (18 comes up for it as for others)." */
    private static void aFirstLineThatIsLost() {
        String[] firsts = {"Hx|5|9", "H|5", "H|5|9|"};
        int[] kinds = {9, 10, 11};
        for (int k = 0; k < 3; k++) {
            int length = firsts[k].length() + 10;
            CensusDesk rejected = KIT.received(firsts[k] + "\nP|A|m|1|\n", 0, kinds[k] + "@0", "2 1 0 1 " + length, kinds[k], REJECT, 0);
            KIT.due(firsts[k], Kit.house(rejected, 0), "-1 -1 1 0 0");
            CensusDesk thrown = KIT.received(firsts[k] + "\nP|A|m|1|\n", 0, kinds[k] + "@0 18@0>0", "2 1 0 1 " + length, 18, GATHER, 0);
            KIT.due(firsts[k] + " thrown", Kit.house(thrown, 0), "-1 -1 1 0 0");
        }
        // A number that was read ahead of what lost the LINE is MISSING, too, and no matter for ORDER.
        CensusDesk told = KIT.received("H|5|x\nP|A|m|1|\nH|5|1\nP|A|m|1|\n", 0, "4@4 13@0>0", "4 2 0 2 30", 13, REJECT, 0);
        KIT.due("both", Kit.house(told, 0) + ", " + Kit.house(told, 1), "-1 -1 1 0 0, 5 1 1 1 0");
        // What is left of the household ahead of it is not taken for its own.
        CensusDesk second = KIT.received("H|5|1\nP|A|m|1|\nH\nP|A|m|1|\n", 0, "10@15", "4 2 0 2 26", 10, REJECT, 0);
        KIT.due("the second", Kit.house(second, 1), "-1 -1 1 1 0");
    }

    /** "A LINE of a person that is not LOST is taken into its HOUSEHOLD, if it is not TWICE". */
    private static void personsThatAreTaken() {
        CensusDesk desk = KIT.received("H|1|2\nP|A|m|1|\nP|A|f|1|\nP|A|m|2|\nP|B|m|5|5\n", 0, "17@15 12@33",
            "5 1 0 2 43", 17, REJECT, 0, 12, REJECT, 0);
        KIT.due("the first of the two that are alike", Kit.person(desk, 0), "0 1 0 1 0");
        KIT.due("the next", Kit.person(desk, 1), "0 2 0 1 0");
        CensusDesk all = KIT.received("H|1|2\nP|A|m|1|\nP|A|f|1|\n", 0, "17@15", "3 1 0 2 24", 17, REPLACE, 0);
        KIT.due("GATHERED it is taken", Kit.person(all, 1), "1 1 0 1 0");
    }

    /** What stood in a person, LINE or sheet ahead of one is not taken for its own. */
    private static void nothingIsLeftOfOthers() {
        CensusDesk names = KIT.received("H|1|1\nP|Abc|m|1|1\nP|0|m|x|\n", 0, "12@6 3@20 4@24~1", "3 1 0 1 27",
            12, REJECT, 0, 25, REJECT, 0);
        KIT.due("a person behind one that is LOST", Kit.person(names, 0), "0 -1 0 0 0");
        CensusDesk taken = KIT.received("H|1|2\nP|Abc|f|7|2\nP|0|x|x|x\n", 0, "12@6 3@20 6@22~1 4@24~1 7@26~1", "3 1 0 2 28",
            12, GATHER, 0, 25, REJECT, 0);
        KIT.due("a person behind one that is taken", Kit.person(taken, 1), "-1 -1 -1 0 0");
        // Cells that are not there have no signs, though THE TAPE ahead had some there.
        CensusDesk cells = Kit.deskWith("\n".repeat(9) + "H|1|1\nP|Abc|m|1|1\n", 29, GATHER, 0);
        cells.receive();
        Kit.put(cells, "H|1|1\nP\nX123456789\n");
        KIT.due("a sheet behind one with longer LINES", cells.receive(), 0);
        KIT.due("its person", Kit.person(cells, 1), "-1 0 0 0 1");
        KIT.due("its failures", Kit.failures(cells), "10@6 2@7 6@7~1 4@7~1 9@8~0");
    }

    /** "Outside all households are the LINES ahead of the first one, those of SUMS, and those behind one of SUMS". */
    private static void linesOutsideAll() {
        String sheet = "X\n" + ONE + "X\nS|1\nX\nS|1\nX\nH|2|1\nX\nP|B|m|1|\n";
        // A LINE that is thrown gives LOSTHOUSE outside, LOSTLINE inside.
        KIT.comeUp(sheet, "9@0 21@0>0 9@17 18@17>2 9@23~0 21@23>4~1 9@29~0 21@29>6~1 9@37 18@37>8", 18, GATHER, 0, 21, GATHER, 0);
        // A LINE of a person there is STRAY, if it is not ODD, and nothing else of it is looked at.
        KIT.comeUp("P\nP|\u0001|||||||\nPP\nS|0\nP|0|x|x|x\nPx\n", "19@0 19@2~0 9@13 19@20~0 9@30~2", 29, GATHER, 0);
        KIT.comeUp("Px\n", "9@0 21@0>0");
        KIT.received("P|A|m|1|\n" + ONE, 0, "19@0", "3 1 0 1 24", 19, GATHER, 0);
    }

    /** "Of a LINE of SUMS that is not LOST: SUM." */
    private static void linesOfSums() {
        KIT.comeUp("S|7\n", "20@0", 20, GATHER, 0);
        KIT.comeUp("Sx|7\n", "9@0", 9, REJECT, 0);
        KIT.comeUp("S|7|\n", "11@0", 11, REJECT, 0);
        KIT.comeUp("S|7|\n", "11@0 20@0", 11, GATHER, 0, 20, GATHER, 0);
        KIT.comeUp("S\n", "10@0", 10, REJECT, 0);
        KIT.comeUp("S|7x\n", "4@2 20@0", 4, GATHER, 0, 20, GATHER, 0);
        KIT.comeUp("S|7x\n", "4@2 13@0>0", 13, REJECT, 0);
        KIT.comeUp("S|7x\n", "4@2 13@0>0", 13, GATHER, 0);
    }

    /** "Reading is behind the LINE that was read or passed over last (with its byte 10)". */
    private static void whereReadingIsBehindALine() {
        KIT.received("P|A\nX\n", 1, "19@0", "1 0 0 0 4");
        KIT.received("P|A", 1, "19@0", "1 0 0 0 3");
        KIT.received("\n\nP|A\n\n\nX\n", 1, "19@2", "1 0 0 0 6");
        KIT.received(ONE + "S|2\n\nX\n", 1, "20@15", "3 1 0 1 19");
        KIT.received(ONE + "\n\nS|2", 1, "20@17", "3 1 0 1 20");
        KIT.received("S|0\n\n\n", 0, "", "1 0 0 0 6");
        KIT.received(ONE + "\n\n", 0, "", "2 1 0 1 17");
        KIT.received(ONE + "X", 1, "9@15 18@15>0 21@0>1", "3 0 1 0 16");
        KIT.received(ONE + "X\n", 1, "9@15 18@15>0 21@0>1", "3 0 1 0 17");
    }

    /** "a household's end is seen when the next LINE with 72 or 83, or the end of THE TAPE, is come to, and reading is ahead of that then" */
    private static void whereReadingIsAtAHouseholdsEnd() {
        String[] nexts = {"H|2|0\n", "S|0\n", "Hx", "Sx", ""};
        for (String next : nexts) {
            KIT.received("H|1|0\n" + next, 1, "14@0 21@0>0", "1 0 1 0 6");
            KIT.received("H|1|0\n\n\n" + next, 1, "14@0 21@0>0", "1 0 1 0 8");
            KIT.received("H|1|0\nX\n\n" + next, 1, "9@6 14@0 21@0>1", "2 0 1 0 9", 9, GATHER, 0);
            KIT.received("H|1|2\nP|A|m|1|\n" + next, 1, "15@0 21@0>0", "2 0 1 0 15");
        }
        KIT.received("H|1|0", 1, "14@0 21@0>0", "1 0 1 0 5");
        KIT.received(ONE + "\n\nH|1|0\n\n", 1, "14@17 21@17>0", "3 1 1 1 24");
    }

    /** "reading stops behind the HOUSEHOLD in which it came up" */
    private static void stopsOfOneHousehold() {
        // In the first LINE, amid, and in the last one: all of its LINES are read, and it is TAKEN.
        runs("H|1|2\nP|A|x|1|\nP|B|m|1|\n\nH|2|1\nP|C|m|1|\n", rules(6, STOP, 0), "2: 3 1 0 2 25", "0: 5 2 0 3 40");
        runs("H|x|2\nP|A|m|1|\nP|B|m|1|\n\nH|2|1\nP|C|m|1|\n", rules(4, STOP, 0), "2: 3 1 0 2 25", "0: 5 2 0 3 40");
        runs("H|1|2\nP|A|m|1|\nP|B|x|1|\n\nH|2|1\nP|C|m|1|\n", rules(6, STOP, 0), "2: 3 1 0 2 25", "0: 5 2 0 3 40");
        runs("H|1|2\nP|A|m|1|\nP|B|x|1|\n\nS|1\nX\n", rules(6, STOP, 0, 9, REJECT, 0), "2: 3 1 0 2 25", "0: 5 1 0 2 31");
        // A household without a failure in it is no place to stop.
        runs(ONE + "H|2|1\nP|B|x|1|\nH|3|1\nP|C|m|1|\nH|4|1\nP|D|m|1|\n", rules(6, STOP, 0), "2: 4 2 0 2 30", "0: 8 4 0 4 60");
        // One that is LOST, too.
        runs("H|1|1\nP|A|x|1|\nX\nP|B|m|1|\nH|2|1\nP|C|m|1|\n", rules(6, STOP, 0, 18, REJECT, 0), "2: 3 0 1 0 26", "0: 5 1 1 1 41");
        runs("H|1|5\nP|A|x|1|\nH|2|1\nP|C|m|1|\n", rules(6, STOP, 0, 15, REJECT, 0), "2: 2 0 1 0 15", "0: 4 1 1 1 30");
        runs("H|1|5\nP|A|x|1|\nH|2|1\nP|C|m|1|\n", rules(6, STOP, 0, 15, STOP, 0), "2: 2 0 1 0 15", "0: 4 1 1 1 30");
        // Two that stop in it are one stop.
        runs("H|x|1\nP|A|x|1|\nX\nH|2|1\nP|C|m|1|\n", rules(4, STOP, 0, 6, STOP, 0, 9, STOP, 0), "2: 3 1 0 1 17", "0: 5 2 0 2 32");
    }

    private static void stopsBehindTheLastHousehold() {
        runs("H|1|1\nP|A|x|1|\n", rules(6, STOP, 0), "2: 2 1 0 1 15", "0: 2 1 0 1 15");
        runs("H|1|1\nP|A|x|1|", rules(6, STOP, 0), "2: 2 1 0 1 14", "0: 2 1 0 1 14");
        runs("H|1|1\nP|A|x|1|\n\n\n", rules(6, STOP, 0), "2: 2 1 0 1 17", "0: 2 1 0 1 17");
        runs("H|1|0\n", rules(14, STOP, 0), "2: 1 0 1 0 6", "0: 1 0 1 0 6");
        CensusDesk desk = runs("H|1|1\nP|A|x|1|\n", rules(6, STOP, 0), "2: 2 1 0 1 15", "0: 2 1 0 1 15");
        KIT.due("it is booked once", Kit.sums(desk), "1 1 0 0 1 0 1 0 0");
    }

    /** "(outside all, or of 14 to 16 and 19 to 21: at once behind it)" */
    private static void stopsOfLinesOutside() {
        runs("S|0\u0001\n\nS|x\n" + ONE, rules(1, STOP, 0, 4, STOP, 0), "2: 1 0 0 0 5", "2: 2 0 0 0 10", "0: 4 1 0 1 25");
        runs("S|0|\nS\n" + ONE, rules(26, STOP, 0), "2: 1 0 0 0 5", "2: 2 0 0 0 7", "0: 4 1 0 1 22");
        runs("X\nX\nX", rules(9, STOP, 0), "2: 1 0 0 0 2", "2: 2 0 0 0 4", "2: 3 0 0 0 5", "0: 3 0 0 0 5");
        runs("P\nP\n", rules(19, STOP, 0), "2: 1 0 0 0 2", "2: 2 0 0 0 4", "0: 2 0 0 0 4");
        runs("S|1\nS|2\n", rules(20, STOP, 0), "2: 1 0 0 0 4", "2: 2 0 0 0 8", "0: 2 0 0 0 8");
        runs("X\n\nX\n", rules(21, STOP, 0), "2: 1 0 0 0 2", "2: 2 0 0 0 5", "0: 2 0 0 0 5");
        runs(ONE + "S|1\nX\n\nH|2|1\nP|B|m|1|\n", rules(9, STOP, 0), "2: 4 1 0 1 21", "0: 6 2 0 2 37");
        // Two that stop in a LINE are one stop.
        runs("S|\u0001\u00021\n" + ONE, rules(1, STOP, 0, 20, STOP, 0), "2: 1 0 0 0 6", "0: 3 1 0 1 21");
        runs("H|1|0\nH|2|0\n", rules(14, STOP, 0), "2: 1 0 1 0 6", "2: 2 0 2 0 12", "0: 2 0 2 0 12");
        runs("H|1|1\nH|2|1\n", rules(14, GATHER, 0, 15, STOP, 0), "2: 1 0 1 0 6", "2: 2 0 2 0 12", "0: 2 0 2 0 12");
        runs("H|1|0\nH|1|0\nH|1|0\n", rules(14, GATHER, 0, 16, STOP, 0), "2: 2 1 1 0 12", "2: 3 1 2 0 18", "0: 3 1 2 0 18");
    }

    /** "One that is REJECTED: nothing is booked, and no more is read." */
    private static void noMoreIsRead() {
        CensusDesk desk = KIT.received(ONE + "S|0\nX\nH|0|9\nP|0\n", 1, "20@15", "3 1 0 1 19");
        KIT.due("nothing is booked", Kit.sums(desk), "0 0 0 0 0 0 0 1 0");
        KIT.due("nothing to read on", desk.resume(), -1);
        KIT.due("nothing to give up", desk.drop(), -1);
        KIT.due("audit", desk.audit(), 0);
        KIT.due("read again it is the same", desk.receive() + " " + Kit.failures(desk) + " " + Kit.sheet(desk), "1 20@15 3 1 0 1 19");
        runs("P\nH|1|1\nX\nP|A|m|1|\n", rules(19, STOP, 0, 21, REJECT, 0), "2: 1 0 0 0 2", "1: 3 0 1 0 10");
        // A stop that was to be made is not made by a sheet that is REJECTED.
        runs("H|1|0\nP|A|x|1|5\n", rules(6, STOP, 0, 12, REJECT, 0), "1: 2 0 1 0 16");
        runs("S|\u00011\n", rules(1, STOP, 0), "1: 1 0 0 0 5");
    }

    /** "A sheet that is HELD is read on: as receive()." */
    private static void heldAgain() {
        CensusDesk desk = Kit.deskWith("P\n".repeat(5), 19, STOP, 0);
        KIT.due("receive", desk.receive(), 2);
        for (int n = 2; n <= 5; n++) {
            KIT.due("held, failures", desk.failures(), n - 1);
            KIT.due("held, sums", Kit.sums(desk), "0 0 0 0 0 0 0 0 0");
            KIT.due("held, audit", desk.audit(), 0);
            KIT.due("resume " + n, desk.resume(), 2);
        }
        KIT.due("the last", desk.resume(), 0);
        KIT.due("one sheet is BOOKED", Kit.sums(desk), "0 0 0 0 0 0 1 0 0");
        KIT.due("audit", desk.audit(), 0);
    }
}
