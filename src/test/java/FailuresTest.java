/** Promises 8 to 11: failures, failure, many, depth. */
public final class FailuresTest {
    private static final Kit KIT = new Kit("FailuresTest");

    public static void main(String[] args) {
        factsOfAFailure();
        firsts();
        manyByGroups();
        manyThrown();
        depths();
        onlyTheFirstAreKept();
        wrongNumbers();
        KIT.finish();
    }

    private static void factsOfAFailure() {
        CensusDesk desk = Kit.deskWith("H|1|1\nP|A\u0001|m|1|\n", 13, 3, 0, 14, 1, 0, 15, 2, 0);
        KIT.due("receive", desk.receive(), 0);
        KIT.due("failures", desk.failures(), 5);
        String[] due = {"1 9 -1 -1 0", "8 8 0 -1 0", "13 6 1 -1 3", "14 0 -1 -1 1", "15 0 -1 3 2"};
        for (int i = 0; i < due.length; i++) {
            String got = Kit.row(desk.failure(i, 0), desk.failure(i, 1), desk.failure(i, 2), desk.failure(i, 3),
                desk.failure(i, 4));
            KIT.due("failure " + i, got, due[i]);
        }
        CensusDesk stopped = Kit.deskWith("P|A\n", 19, 4, 0);
        stopped.receive();
        KIT.due("the WAY of a STOP", stopped.failure(0, 4), 4);
    }

    private static void firsts() {
        // By layers; by households; outside is one scope, ahead of the first household and behind SUMS;
        // the SHEET has one scope for all.
        String sheet = "X\nH|x|y\nX\nH|z|0\nX\nX\nS|u\nX\nP|A\nS|v\nP|B\nH|w|0\n";
        CensusDesk desk = Kit.deskWith(sheet, 29, 1, 0, 9, 0, 0, 4, 0, 0);
        desk.receive();
        KIT.due("failures", Kit.failures(desk),
            "9@0 21@0>0 4@4 13@2>2 4@6~2 13@2>4~3 9@8~3 18@8>6 14@2~7 "
            + "4@12 13@10>9 9@16~10 18@16>11 9@18~10 18@18>13~12 14@10~12 "
            + "4@22 13@20>16~0 9@24~0 21@24>18~1 19@26~1 4@32~16 13@30>21~0 19@34~1 "
            + "4@40 13@38>24 14@38");
    }

    private static void manyByGroups() {
        CensusDesk desk = Kit.deskWith("P|x\nH|10000|x\nP||q|1|5\nP|A\u0001|m|1|xx\nP|0|m|1\nP|B|m|1||\nX\nS|9\n", 29, 1, 0);
        KIT.due("receive", desk.receive(), 0);
        KIT.due("failures", Kit.failures(desk), "19@0 5@6 4@12~1 2@16~1 6@17~1 12@14 1@26 3@26~1 7@32~1 "
            + "10@35~5 3@37~1 11@43~5 9@53~5 15@4 20@55~0");
        int[] due = {-1, 1, 1, 2, 1, 1, 1, 1, 0, 1, 1, 1, 1, 0, 0, 1, 0, 0, 0, 1, 1, 0, 3, 2, 1, 7, 4, 1, 2, 15, -1};
        for (int kind = 0; kind < due.length; kind++) KIT.due("many(" + kind + ")", desk.many(kind), due[kind]);
    }

    private static void manyThrown() {
        CensusDesk desk = Kit.deskWith("H|1|1\nP|A\u0001|m|1|\nH|2|1\nP|B\u0001|m|1|\n", 21, 1, 0);
        KIT.due("receive", desk.receive(), 0);
        int[] due = {1, 2, 8, 2, 13, 2, 18, 2, 21, 2, 22, 0, 23, 0, 24, 2, 25, 2, 26, 2, 27, 2, 28, 2, 29, 10};
        for (int k = 0; k < due.length; k += 2) KIT.due("thrown: many(" + due[k] + ")", desk.many(due[k]), due[k + 1]);
    }

    private static void depths() {
        CensusDesk desk = Kit.deskWith("H|1|1\nP|A\u0001|m|1|\n");
        desk.receive();
        for (int i = 0; i < 5; i++) KIT.due("depth(" + i + ")", desk.depth(i), i);
        KIT.due("depth(5)", desk.depth(5), -1);
        CensusDesk twice = Kit.deskWith("H|1|1\nP|A|m|1|\nP|A|m|1|\n");
        twice.receive();
        KIT.due("TWICE, LOSTLINE, LOSTHOUSE", Kit.row(twice.depth(0), twice.depth(1), twice.depth(2)), "0 1 2");
    }

    private static void onlyTheFirstAreKept() {
        CensusDesk desk = Kit.deskWith("X\n".repeat(299) + "S|x\nH|1|0\nX\nX\n", 29, 1, 0, 4, 0, 0);
        KIT.due("receive", desk.receive(), 0);
        KIT.due("all are counted", desk.failures(), 304);
        KIT.due("by kinds too", Kit.row(desk.many(9), desk.many(4), desk.many(13), desk.many(14)), "301 1 1 1");
        KIT.due("the 300th", Kit.row(desk.failure(299, 0), desk.failure(299, 1), desk.failure(299, 3)), "4 600 -1");
        KIT.due("its depth", desk.depth(299), 0);
        KIT.due("the 301st", Kit.row(desk.failure(300, 0), desk.failure(300, 2), desk.depth(300)), "-1 -1 -1");
        KIT.due("the 304th", Kit.row(desk.failure(303, 0), desk.depth(303)), "-1 -1");
    }

    private static void wrongNumbers() {
        CensusDesk desk = Kit.deskWith("H|1|0\n");
        desk.receive();
        KIT.due("failures", desk.failures(), 2);
        int[] wrong = {-1, 2, 300, Integer.MIN_VALUE, Integer.MAX_VALUE};
        for (int i : wrong) {
            KIT.due("failure(" + i + ", 0)", desk.failure(i, 0), -1);
            KIT.due("depth(" + i + ")", desk.depth(i), -1);
        }
        int[] wrongWhat = {-1, 5, Integer.MIN_VALUE, Integer.MAX_VALUE};
        for (int what : wrongWhat) KIT.due("failure(0, " + what + ")", desk.failure(0, what), -1);
        int[] wrongKind = {-1, 0, 30, Integer.MIN_VALUE, Integer.MAX_VALUE};
        for (int kind : wrongKind) KIT.due("many(" + kind + ")", desk.many(kind), -1);
    }
}
