/** Promises 6 and 7: resume and drop, and where STOP makes reading stop. */
public final class HeldTest {
    private static final Kit KIT = new Kit("HeldTest");
    private static final int GATHER = 1, REJECT = 3, STOP = 4;

    public static void main(String[] args) {
        noneHeld();
        stopsBehindHouseholds();
        stopsOutside();
        stopsByLostHouse();
        stopsTwice();
        rejectedBehindStop();
        whatIsKept();
        dropping();
        noRoomByResume();
        KIT.finish();
    }

    /** The answers of receive() and of resume() up to the end, each with what sheet() tells then. */
    private static void runs(String sheet, int[] rules, String... due) {
        CensusDesk desk = Kit.deskWith(sheet, rules);
        String call = sheet.replace('\n', '/') + " by " + Kit.row(rules);
        for (int n = 0; n < due.length; n++) {
            int answer = n == 0 ? desk.receive() : desk.resume();
            KIT.due(call + ", step " + n, answer + ": " + Kit.sheet(desk), due[n]);
            KIT.due(call + ", audit " + n, desk.audit(), 0);
        }
        KIT.due(call + ", none is held", desk.resume(), -1);
    }

    private static int[] rules(int... rules) {
        return rules;
    }

    private static void noneHeld() {
        CensusDesk desk = Kit.deskWith("H|1|0\n", 14, 1, 0);
        KIT.due("resume without a sheet", desk.resume(), -1);
        KIT.due("drop without a sheet", desk.drop(), -1);
        desk.receive();
        KIT.due("resume of one that is BOOKED", desk.resume(), -1);
        KIT.due("drop of one that is BOOKED", desk.drop(), -1);
        desk.rule(14, 0, 0);
        desk.receive();
        KIT.due("resume of one that is REJECTED", desk.resume(), -1);
        KIT.due("drop of one that is REJECTED", desk.drop(), -1);
        KIT.due("sums", Kit.sums(desk), "1 0 0 0 0 0 1 1 0");
    }

    private static void stopsBehindHouseholds() {
        String two = "H|1|1\nP|A|m|x|\nP|B|m|1|\n\nH|2|1\nP|C|m|1|\n";
        // 4 in a household: its LINES are read to the end, and what is asked at its end is asked.
        runs(two, rules(4, STOP, 0, 15, GATHER, 0), "2: 3 1 0 2 25", "0: 5 2 0 3 40");
        runs(two, rules(4, STOP, 0, 15, REJECT, 0), "2: 3 0 1 0 25", "0: 5 1 1 1 40");
        runs("H|1|1\nP|A|m|1|\nX\nS|1\n", rules(9, STOP, 0), "2: 3 1 0 1 17", "0: 4 1 0 1 21");
        runs("H|1|1\nP|A|m|1|\nX\n\n", rules(9, STOP, 0), "2: 3 1 0 1 18", "0: 3 1 0 1 18");
        runs("H|x|1\nP|A|m|1|\nH|2|1\nP|A|m|1|\n", rules(4, STOP, 0), "2: 2 1 0 1 15", "0: 4 2 0 2 30");
        runs("H|1|0\n\nH|2|0\nH|3|1\nP|A|m|1|\n", rules(14, STOP, 0), "2: 1 0 1 0 7", "2: 2 0 2 0 13", "0: 4 1 2 1 28");
        runs("H|1|0\n", rules(14, STOP, 0), "2: 1 0 1 0 6", "0: 1 0 1 0 6");
        runs("H|1|0\nH|2|0\n", rules(14, GATHER, 0, 16, STOP, 0), "0: 2 2 0 0 12");
        runs("H|2|0\nH|2|0\nH|3|0\n", rules(14, GATHER, 0, 16, STOP, 0), "2: 2 1 1 0 12", "0: 3 2 1 0 18");
        runs("H|2|1\nH|3|0\n", rules(14, GATHER, 0, 15, STOP, 0), "2: 1 0 1 0 6", "0: 2 1 1 0 12");
        // Two in one household are one stop.
        runs("H|1|0\nX\nX\nH|2|0\n", rules(9, STOP, 0, 14, GATHER, 0), "2: 3 1 0 0 10", "0: 4 2 0 0 16");
    }

    private static void stopsOutside() {
        runs("X\n\nX\nH|1|0\n", rules(9, STOP, 0, 14, GATHER, 0), "2: 1 0 0 0 2", "2: 2 0 0 0 5", "0: 3 1 0 0 11");
        runs("P|A\nH|1|0\n", rules(19, STOP, 0, 14, GATHER, 0), "2: 1 0 0 0 4", "0: 2 1 0 0 10");
        runs("S|1\nH|1|0\nS|1\n", rules(20, STOP, 0, 14, GATHER, 0), "2: 1 0 0 0 4", "0: 3 1 0 0 14");
        runs("S|x\nH|1|0\n", rules(4, STOP, 0, 14, GATHER, 0), "2: 1 0 0 0 4", "0: 2 1 0 0 10");
        // The LINE is read to its end: the sign is left out, and the sum is asked.
        runs("S|\u00011\nH|1|0\n", rules(1, STOP, 0, 20, GATHER, 0, 14, GATHER, 0), "2: 1 0 0 0 5", "0: 2 1 0 0 11");
        CensusDesk desk = Kit.deskWith("S|\u00011\n", 1, STOP, 0, 20, GATHER, 0);
        desk.receive();
        KIT.due("a sign and the sum", Kit.failures(desk), "1@2 20@0");
        runs("S|1", rules(20, STOP, 0), "2: 1 0 0 0 3", "0: 1 0 0 0 3");
    }

    private static void stopsByLostHouse() {
        runs("X\nH|1|0\n", rules(21, STOP, 0, 14, GATHER, 0), "2: 1 0 0 0 2", "0: 2 1 0 0 8");
        runs("H|1|0\nH|2|0\n", rules(21, STOP, 0), "2: 1 0 1 0 6", "2: 2 0 2 0 12", "0: 2 0 2 0 12");
        // At once, amid the household: the rest of its LINES is passed over behind the stop.
        runs("H|1|1\nX\nP|A|m|1|\nX\nH|2|0\n", rules(21, STOP, 0, 14, GATHER, 0), "2: 2 0 1 0 8", "0: 3 1 1 0 25");
        runs("H|1\nX\nS|0\n", rules(21, STOP, 0), "2: 1 0 1 0 4", "0: 2 0 1 0 10");
    }

    private static void stopsTwice() {
        // 4 asks for a stop behind the household, 21 for one at once.
        runs("H|1|1\nP|A|m|x|\nX\nP|B|m|1|\nH|2|0\n", rules(4, STOP, 0, 21, STOP, 0, 14, GATHER, 0),
            "2: 3 0 1 0 17", "2: 3 0 1 0 26", "0: 4 1 1 0 32");
    }

    private static void rejectedBehindStop() {
        runs("H|1|0\nX\nH|2|0\n", rules(9, STOP, 0), "1: 2 0 1 0 8");
        runs("P|A\nH|1|0\n", rules(19, STOP, 0), "2: 1 0 0 0 4", "1: 2 0 1 0 10");
        CensusDesk desk = Kit.deskWith("P|A\nH|1|0\n", 19, STOP, 0);
        desk.receive();
        desk.resume();
        KIT.due("one sheet was REJECTED", Kit.sums(desk), "0 0 0 0 0 0 0 1 0");
        // A sheet that was to stop where it was REJECTED leaves no stop to the next one.
        Kit.put(desk, "S|\u0001x\n");
        desk.rule(1, STOP, 0);
        KIT.due("REJECTED, and to stop", desk.receive(), 1);
        Kit.put(desk, "H|1|0\nP|A\u0001|m|x|\nX\n");
        KIT.due("REJECTED, and to stop behind the household", desk.receive(), 1);
        Kit.put(desk, "H|1|1\nP|A|m|1|\nS|1\n");
        KIT.due("the next is BOOKED", desk.receive(), 0);
        desk = Kit.deskWith("P|A\nH|1|0\n", 19, STOP, 0);
        desk.receive();
        desk.resume();
        KIT.due("its failures are all there", Kit.failures(desk), "19@0 14@4 21@4>1~0");
    }

    /** What a stop must not forget: numbers for ORDER, sums, firsts. */
    private static void whatIsKept() {
        CensusDesk desk = Kit.deskWith("X\nH|5|0\nX\nH|5|0\nS|9\nX\n", 9, STOP, 0, 29, GATHER, 0);
        KIT.due("outside", desk.receive(), 2);
        KIT.due("behind the first household", desk.resume(), 2);
        KIT.due("nothing is booked yet", Kit.sums(desk), "0 0 0 0 0 0 0 0 0");
        KIT.due("audit counts one that is HELD", desk.audit(), 0);
        KIT.due("outside again", desk.resume(), 2);
        KIT.due("to the end", desk.resume(), 0);
        KIT.due("failures", Kit.failures(desk), "9@0 9@8 14@2 14@10 16@10~3 20@16 9@20~0");
        KIT.due("household 1", Kit.house(desk, 1), "5 0 0 0 0");
    }

    private static void dropping() {
        CensusDesk desk = Kit.deskWith("H|1|1\nP|A|m|1|\nH|2|1\nP|A|m|1|\nX\nH|3|0\n", 9, STOP, 0, 14, GATHER, 0);
        KIT.due("held", desk.receive(), 2);
        KIT.due("receive while held", desk.receive(), -2);
        KIT.due("drop", desk.drop(), 2);
        KIT.due("nothing of it is booked", Kit.sums(desk), "0 0 0 0 0 0 0 1 0");
        KIT.due("it is still the latest sheet", Kit.sheet(desk), "5 2 0 2 32");
        KIT.due("its failures too", Kit.failures(desk), "9@30");
        KIT.due("drop again", desk.drop(), -1);
        KIT.due("resume", desk.resume(), -1);
        KIT.due("audit", desk.audit(), 0);
        KIT.due("end, now that none is held", desk.end(15), 15);
        KIT.due("receive", desk.receive(), 0);
        KIT.due("the sheet's number counts all received", desk.house(0, 4), 1);
        Kit.put(desk, "H|1|1\nX\nP|A|m|1|\n");
        Kit.setRules(desk, 9, 0, 0, 21, STOP, 0);
        KIT.due("held amid a household", desk.receive(), 2);
        KIT.due("drop of it", desk.drop(), 0);
        Kit.put(desk, "P|A|m|1|\n");
        Kit.setRules(desk, 19, GATHER, 0);
        KIT.due("it does not go on in the next sheet", desk.receive() + " " + Kit.failures(desk), "0 19@0");
        Kit.put(desk, "H|1|0\nX\nP|A|m|x|\nX\n");
        Kit.setRules(desk, 4, STOP, 0, 21, STOP, 0, 9, GATHER, 0, 13, GATHER, 0);
        KIT.due("held behind a household", desk.receive(), 2);
        KIT.due("drop", desk.drop(), 0);
        Kit.put(desk, "H|1|0\n");
        KIT.due("the stop does not go on in the next sheet", desk.receive(), 0);
    }

    private static void noRoomByResume() {
        StringBuilder text = new StringBuilder("P|A\n");
        for (int n = 1; n <= 40; n++) text.append("H|").append(n).append("|0\n");
        CensusDesk desk = Kit.deskWith(text.toString(), 19, STOP, 0, 14, GATHER, 0);
        desk.receive();
        KIT.due("40 by resume", desk.resume(), 0);
        desk.receive();
        KIT.due("80 by resume", desk.resume(), 3);
        KIT.due("sums", Kit.sums(desk), "40 0 0 0 0 0 1 0 1");
        KIT.due("audit", desk.audit(), 0);
    }
}
