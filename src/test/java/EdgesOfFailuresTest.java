/** Promises 8 to 12 at their bounds: what is kept of failures, FIRST and CAUSE, GROUPS, and what is forgotten. */
public final class EdgesOfFailuresTest {
    private static final Kit KIT = new Kit("EdgesOfFailuresTest");
    private static final int THROW = 0, GATHER = 1, REJECT = 3, STOP = 4;
    private static final String ONE = "H|1|1\nP|A|m|1|\n";
    /** Of each GROUP, all the KINDS in it. */
    private static final int[][] KINDS_OF = {
        {2, 3}, {4, 5}, {1}, {2, 3, 4, 5, 6, 7, 8}, {9, 10, 11, 12, 13}, {14, 15, 16, 17, 18}, {19, 20, 21},
        {1, 2, 3, 4, 5, 6, 7, 8, 9, 10, 11, 12, 13, 14, 15, 16, 17, 18, 19, 20, 21}
    };

    public static void main(String[] args) {
        aroundThe300th();
        causesAroundThe300th();
        keptOfAHeldSheet();
        factsOfAFailure();
        firstsInAHousehold();
        layersOfKinds();
        firstsOutsideAll();
        firstsOfTheSheet();
        causes();
        depths();
        manyOfEachKind();
        rulesOfEachGroup();
        rulesNearestFirst();
        forgottenByTheNext();
        sheetFacts();
        KIT.finish();
    }

    /** "the first 300 are kept" */
    private static void aroundThe300th() {
        int[] counts = {0, 1, 299, 300, 301, 2000};
        for (int count : counts) {
            CensusDesk desk = Kit.deskWith("X\n".repeat(count), 9, GATHER, 0);
            KIT.due(count + " failures", desk.receive(), 0);
            KIT.due("all are counted", desk.failures(), count);
            KIT.due("of their KIND", desk.many(9), count);
            KIT.due("of their GROUPS", Kit.row(desk.many(26), desk.many(29), desk.many(25)), Kit.row(count, count, 0));
            int[] indexes = {0, 1, 298, 299, 300, 301, 1999, 2000};
            for (int i : indexes) {
                boolean isKept = i < 300 && i < count;
                String facts = Kit.row(desk.failure(i, 0), desk.failure(i, 1), desk.failure(i, 2), desk.failure(i, 3), desk.failure(i, 4));
                KIT.due("failure " + i + " of " + count, facts, isKept ? Kit.row(9, 2 * i, -1, i == 0 ? -1 : 0, 1) : "-1 -1 -1 -1 -1");
                KIT.due("depth of failure " + i + " of " + count, desk.depth(i), isKept ? 0 : -1);
            }
        }
    }

    private static void causesAroundThe300th() {
        // ODD thrown is the last that is kept, LOSTHOUSE by it is not; one fewer ahead, and both are.
        CensusDesk desk = Kit.deskWith("P\n".repeat(299) + "X\n", 28, GATHER, 0);
        desk.receive();
        KIT.due("the 300th", Kit.row(desk.failure(299, 0), desk.depth(299), desk.failures()), "9 0 301");
        KIT.due("the 301st", Kit.row(desk.failure(300, 0), desk.failure(300, 2), desk.depth(300)), "-1 -1 -1");
        KIT.due("it is counted", desk.many(21), 1);
        desk.end(0);
        Kit.put(desk, "P\n".repeat(298) + "X\n");
        desk.receive();
        KIT.due("the 299th", Kit.row(desk.failure(298, 0), desk.depth(298), desk.failures()), "9 0 300");
        KIT.due("the 300th", Kit.row(desk.failure(299, 0), desk.failure(299, 2), desk.failure(299, 3), desk.depth(299)), "21 298 0 1");
        // What is not kept still counts as FIRST: the reading goes on as it would.
        CensusDesk rejected = Kit.deskWith("P\n".repeat(300) + "X\n", 19, GATHER, 0);
        KIT.due("REJECTED by the 302nd", rejected.receive() + " " + rejected.failures(), "1 302");
    }

    private static void keptOfAHeldSheet() {
        CensusDesk desk = Kit.deskWith("P\n".repeat(299) + "X\nP\nP\n", 19, GATHER, 0, 9, STOP, 0);
        KIT.due("HELD by the 300th", desk.receive() + " " + desk.failures(), "2 300");
        KIT.due("it is kept", desk.failure(299, 0), 9);
        KIT.due("read on", desk.resume() + " " + desk.failures(), "0 302");
        KIT.due("no more are kept", Kit.row(desk.failure(299, 0), desk.failure(300, 0)), "9 -1");
    }

    /** "0 KIND, 1 PLACE, 2 CAUSE, 3 FIRST, 4 WAY. NONE (2 and 3 may be -1, too)." */
    private static void factsOfAFailure() {
        CensusDesk desk = Kit.deskWith("\nX\nX\n", 9, THROW, 0, 21, GATHER, 0);
        desk.receive();
        String[] due = {"9 1 -1 -1 0", "21 1 0 -1 1", "9 3 -1 0 0", "21 3 2 1 1"};
        for (int i = 0; i < 4; i++) {
            StringBuilder got = new StringBuilder();
            for (int what = 0; what < 5; what++) got.append(what == 0 ? "" : " ").append(desk.failure(i, what));
            KIT.due("failure " + i, got.toString(), due[i]);
            KIT.due("failure " + i + ", -1", desk.failure(i, -1), -1);
            KIT.due("failure " + i + ", 5", desk.failure(i, 5), -1);
        }
        KIT.due("failure 4", desk.failure(4, 0), -1);
        KIT.due("failure -1", desk.failure(-1, 0), -1);
    }

    /** "the first failure of its layer that came up in the same HOUSEHOLD" */
    private static void firstsInAHousehold() {
        // All five layers in two households; each has its own firsts but for the layer SHEET.
        String house = "H|1|1\nP|\u0001|m|1|\nP|\u0002|m|1|\n";
        KIT.comeUp(house + house,
            "1@8 8@8>0 13@6>1 18@6>2 1@17~0 8@17>4~1 13@15>5~2 18@15>6~3 14@0~3 15@0~3 "
            + "1@32 8@32>10 13@30>11 18@30>12 1@41~10 8@41>14~11 13@39>15~12 18@39>16~13 14@24~13 15@24~13 16@24~13",
            27, GATHER, 0);
        // A household that is LOST has its firsts, and the next one its own.
        KIT.comeUp("H|1|1\nX\nX\nH|2|1\nX\nX\n", "9@6 18@6>0 21@0>1 9@16 18@16>3 21@10>4~2", 21, GATHER, 0);
        // Of the first LINE, too.
        KIT.comeUp("Hx\nX\nHx\nX\n", "9@0 9@3~0 14@0 9@5 9@8~3 14@5", 29, GATHER, 0);
    }

    /** "KINDS, by layers": each behind one of its own layer has that as its FIRST, and of the others none. */
    private static void layersOfKinds() {
        // FIELDS: 2 to 8, behind 4 in the first LINE.
        String[] cells = {"|m|1|", "0|m|1|", "A|m|x|", "A|m|121|", "A|x|1|", "A|m|1|x"};
        int[] places = {8, 8, 12, 12, 10, 14};
        for (int k = 0; k < cells.length; k++) {
            KIT.comeUp("H|x|x\nP|" + cells[k] + "\n", "4@2 4@4~0 " + (k + 2) + "@" + places[k] + "~0", 25, GATHER, 0, 4, REJECT, 0);
        }
        KIT.comeUp("H|x|x\nP|A\u0001|m|1|\n", "4@2 4@4~0 1@9 8@8>2~0", 25, GATHER, 0, 4, REJECT, 0);
        // LINES: 9 to 13, behind 9.
        KIT.comeUp("H|x|1\nX\nX\nP|A|m|1\nP|B|m|1||\nP|C|m|1|1\nP|x|0|1|\n",
            "4@2 13@0>0 9@6~1 9@8~1 10@10~1 11@18~1 12@28~1 6@42~0 13@38>7~1 15@0", 29, GATHER, 0, 4, THROW, 0, 6, THROW, 0);
        // HOUSEHOLDS: 14 to 18, behind 18 or 17.
        KIT.comeUp("H|9|0\nX\nH|9|1\nX\n", "9@6 18@6>0 14@0~1 9@14 18@14>3 14@8~4 15@8~4 16@8~4", 27, GATHER, 0);
        KIT.comeUp("H|9|1\nP|A|m|1|\nP|A|m|1|\nX\n", "17@15 9@24 18@24>1~0 15@0~0", 27, GATHER, 0);
        // SHEET: 19 to 21, behind 19.
        KIT.comeUp("P\nP\nS|7\nX\n", "19@0 19@2~0 20@4~0 9@8 21@8>3~0", 28, GATHER, 0);
    }

    /** ".. or outside all of them" */
    private static void firstsOutsideAll() {
        KIT.comeUp("X\nX\n" + ONE + "X\nS|x\nX\nS|y\nH|2|0\nX\nS|2\nX\n",
            "9@0 9@2~0 9@19 4@23 20@21 9@25~0 4@29~3 20@27~4 9@37 14@31 9@43~0", 29, GATHER, 0);
    }

    /** "of the layer SHEET: that came up in the sheet" */
    private static void firstsOfTheSheet() {
        KIT.comeUp("H|1|0\nS|9\nP\nX\nH|2|0\nS|9\n", "14@0 21@0>0 20@6~1 19@10~1 9@12 21@12>4~1 14@14 21@14>6~1 20@20~1",
            28, GATHER, 0);
        KIT.comeUp("P\nH|1|0\nS|0\nP\n", "19@0 14@2 20@8~0 19@12~0", 29, GATHER, 0);
    }

    /** "a CAUSE (a failure that was thrown up to it, -1 without)" */
    private static void causes() {
        // Only THROW throws up.
        String sheet = "H|1|0\nX\n" + ONE;
        KIT.comeUp(sheet, "9@6 18@6>0 21@0>1", 21, GATHER, 0);
        KIT.comeUp(sheet, "9@6 14@0", 9, GATHER, 0, 14, REJECT, 0);
        KIT.comeUp(sheet, "9@6 14@0", 9, REJECT, 0, 14, REJECT, 0);
        KIT.comeUp(sheet, "9@6 14@0", 9, STOP, 0, 14, REJECT, 0);
        KIT.comeUp(sheet, "9@6 18@6>0", 18, REJECT, 0);
        KIT.comeUp(sheet, "9@6 18@6>0", 18, STOP, 0);
        // Of several in a line, that which was thrown.
        KIT.comeUp("H|1|1\nP|0|x|1|1\n", "3@8 6@10~0 13@6>1 12@6~2 18@6>3 21@0>4", 3, GATHER, 0, 13, GATHER, 0, 12, THROW, 0);
    }

    /** "How many causes deep a failure is (0 without one)." */
    private static void depths() {
        CensusDesk desk = Kit.deskWith("H|1|1\nP|\u0001|m|1|\nX\nH|2|1\nP|x\n", 21, GATHER, 0);
        desk.receive();
        KIT.due("failures", Kit.failures(desk), "1@8 8@8>0 13@6>1 18@6>2 21@0>3 10@23 18@23>5 21@17>6~4");
        int[] due = {0, 1, 2, 3, 4, 0, 1, 2};
        for (int i = 0; i < due.length; i++) KIT.due("depth(" + i + ")", desk.depth(i), due[i]);
        KIT.due("depth(8)", desk.depth(8), -1);
        KIT.due("depth(-1)", desk.depth(-1), -1);
        CensusDesk none = new CensusDesk();
        KIT.due("depth(0) of a new one", none.depth(0), -1);
        KIT.comeUp("S|\u0001\n", "1@2 8@2>0 13@0>1 21@0>2");
    }

    /** "How many failures of a KIND, or of all KINDS in a GROUP, came up." */
    private static void manyOfEachKind() {
        String[] sheets = SheetsByKind.sheets();
        sheets[8] = sheets[1];
        sheets[13] = sheets[4];
        sheets[18] = sheets[9];
        sheets[21] = sheets[14];
        for (int kind = 1; kind <= 21; kind++) {
            CensusDesk desk = Kit.deskWith(sheets[kind]);
            desk.receive();
            int[] found = new int[30];
            for (int i = 0; i < desk.failures(); i++) found[desk.failure(i, 0)]++;
            KIT.due("kind " + kind + " comes up", found[kind], 1);
            for (int group = 22; group <= 29; group++) {
                for (int member : KINDS_OF[group - 22]) found[group] += found[member];
            }
            for (int k = 1; k <= 29; k++) KIT.due("many(" + k + ") of a sheet with " + kind, desk.many(k), found[k]);
            KIT.due("many(0)", desk.many(0), -1);
            KIT.due("many(30)", desk.many(30), -1);
        }
    }

    /** GROUPS: a rule of a GROUP is that of the KINDS in it, and of no others. */
    private static void rulesOfEachGroup() {
        String[] sheets = SheetsByKind.sheets();
        for (int group = 22; group <= 29; group++) {
            for (int kind = 1; kind <= 20; kind++) {
                if (sheets[kind] == null) continue;
                CensusDesk desk = Kit.deskWith(sheets[kind], group, REJECT, 0);
                desk.receive();
                boolean isIn = false;
                for (int member : KINDS_OF[group - 22]) isIn |= member == kind;
                KIT.due("kind " + kind + " by a rule of " + group, Kit.row(desk.failure(0, 0), desk.failure(0, 4)), Kit.row(kind, isIn ? REJECT : THROW));
            }
        }
    }

    /** "that of its KIND, else of the GROUP that the KIND is in, else of the GROUP that that is in, and so on; without any: THROW" */
    private static void rulesNearestFirst() {
        CensusDesk desk = Kit.deskWith("H|1|1\nP||m|30|1\n");
        int[] nested = {29, 25, 22, 2};
        int[] ways = {GATHER, REJECT, STOP, 2};
        desk.receive();
        KIT.due("without any", desk.failure(0, 4), THROW);
        for (int k = 0; k < 4; k++) {
            desk.rule(nested[k], ways[k], 0);
            desk.receive();
            KIT.due("by " + nested[k], desk.failure(0, 4), ways[k]);
            desk.drop();
        }
        for (int k = 3; k > 0; k--) {
            KIT.due("the rule of " + nested[k] + " is taken back", desk.rule(nested[k], -1, 0), ways[k]);
            desk.receive();
            KIT.due("by " + nested[k - 1] + " again", desk.failure(0, 4), ways[k - 1]);
            desk.drop();
        }
        // A rule THROW of the KIND is a rule: those of its GROUPS do not count.
        desk.rule(2, THROW, 0);
        desk.receive();
        KIT.due("by THROW of the KIND", desk.failure(0, 4), THROW);
        // Its number is that of the rule that counts.
        CensusDesk numbers = Kit.deskWith("H|1|1\nP|A|m|x|\n", 29, 2, 11, 25, 2, 12, 23, 2, 13, 4, 2, 14);
        int[] due = {14, 13, 12, 11};
        int[] takenBack = {4, 23, 25, 29};
        for (int k = 0; k < 4; k++) {
            numbers.receive();
            KIT.due("the number of the rule of " + takenBack[k], numbers.person(k, 1), due[k]);
            numbers.rule(takenBack[k], -1, 0);
        }
        KIT.due("without any it is thrown", numbers.receive(), 1);
    }

    /** "The failures, households and persons of the sheet ahead of it are forgotten." */
    private static void forgottenByTheNext() {
        CensusDesk desk = Kit.deskWith("P\nH|5|2\nX\nP|A|m|1|\nP|A|m|1|\nS|7\n", 29, GATHER, 0);
        desk.receive();
        KIT.due("failures", Kit.failures(desk), "19@0 9@8 17@19 20@28~0");
        KIT.due("sheet", Kit.sheet(desk), "6 1 0 2 32");
        desk.receive();
        KIT.due("the same again", Kit.failures(desk), "19@0 9@8 17@19 20@28~0");
        KIT.due("the same sheet", Kit.sheet(desk), "6 1 0 2 32");
        desk.end(0);
        desk.receive();
        KIT.due("none", Kit.row(desk.failures(), desk.many(29), desk.failure(0, 0), desk.depth(0)), "0 0 -1 -1");
        KIT.due("nothing", Kit.sheet(desk), "0 0 0 0 0");
        // feed, end and rule forget nothing; nor do drop and a call that is refused.
        Kit.put(desk, "P\nP\n");
        desk.rule(19, STOP, 0);
        desk.receive();
        desk.receive();
        desk.drop();
        desk.end(0);
        desk.feed(0, 0, 0, 0, 0);
        desk.rule(19, GATHER, 0);
        KIT.due("still there", Kit.failures(desk) + ": " + Kit.sheet(desk), "19@0: 1 0 0 0 2");
    }

    /** Promise 12: "0 LINES read .. 4 where reading is .. NONE." */
    private static void sheetFacts() {
        CensusDesk desk = Kit.deskWith("P\nX\n" + ONE + "\nH|2|1\nX\nP|B|m|1|\nX\nS|1\nP\n", 28, GATHER, 0, 9, THROW, 0);
        KIT.due("receive", desk.receive(), 0);
        int[] due = {8, 1, 1, 1, 45};
        for (int what = 0; what < 5; what++) KIT.due("sheet(" + what + ")", desk.sheet(what), due[what]);
        KIT.due("sheet(-1)", desk.sheet(-1), -1);
        KIT.due("sheet(5)", desk.sheet(5), -1);
    }
}
