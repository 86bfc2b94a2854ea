/** Promise 4: rule, and which RULE a failure goes by. */
public final class RuleTest {
    private static final Kit KIT = new Kit("RuleTest");
    /** Each KIND and GROUP with the GROUP that it is in. */
    private static final int[] GROUP_OF = {
        0, 24, 22, 22, 23, 23, 25, 25, 25, 26, 26, 26, 26, 26, 27, 27, 27, 27, 27, 28, 28, 28,
        25, 25, 29, 29, 29, 29, 29, 0
    };

    public static void main(String[] args) {
        answers();
        refusals();
        nearestRule();
        nearestRuleOfThrown();
        noneAgain();
        whileHeld();
        KIT.finish();
    }

    private static void answers() {
        CensusDesk desk = new CensusDesk();
        for (int kind = 1; kind <= 29; kind++) {
            KIT.due("first of " + kind, desk.rule(kind, kind % 5, 7), -1);
        }
        for (int kind = 1; kind <= 29; kind++) {
            KIT.due("second of " + kind, desk.rule(kind, 4 - kind % 5, 0), kind % 5);
            KIT.due("none of " + kind, desk.rule(kind, -1, 0), 4 - kind % 5);
            KIT.due("none again of " + kind, desk.rule(kind, -1, 0), -1);
        }
        KIT.due("number -1", desk.rule(1, 0, -1), -1);
        KIT.due("number 999999", desk.rule(1, 4, 999999), 0);
    }

    private static void refusals() {
        CensusDesk desk = new CensusDesk();
        desk.rule(1, 3, 5);
        int[] badKinds = {0, 30, -1, Integer.MIN_VALUE, Integer.MAX_VALUE};
        for (int kind : badKinds) KIT.due("kind " + kind, desk.rule(kind, 0, 0), -3);
        int[] badWays = {-2, 5, Integer.MIN_VALUE, Integer.MAX_VALUE};
        for (int way : badWays) KIT.due("way " + way, desk.rule(1, way, 0), -3);
        int[] badNumbers = {-2, 1000000, Integer.MIN_VALUE, Integer.MAX_VALUE};
        for (int number : badNumbers) KIT.due("number " + number, desk.rule(1, 0, number), -3);
        KIT.due("what is refused changes nothing", desk.rule(1, 3, 5), 3);
    }

    /** A sheet with just one failure of each kind that can come up by itself, by the WAY of each group above. */
    private static void nearestRule() {
        String[] sheets = SheetsByKind.sheets();
        for (int kind = 1; kind <= 20; kind++) {
            if (sheets[kind] == null) continue;
            for (int at = kind; at != 0; at = GROUP_OF[at]) {
                CensusDesk desk = Kit.deskWith(sheets[kind]);
                setOutward(desk, at);
                desk.receive();
                KIT.due("way of kind " + kind + " by the rule of " + at, wayOf(desk, kind), 3);
            }
            CensusDesk bare = Kit.deskWith(sheets[kind]);
            bare.receive();
            KIT.due("way of kind " + kind + " without a rule", wayOf(bare, kind), 0);
        }
    }

    /** The same for what comes up by a THROW alone: each with the kind that is thrown up to it. */
    private static void nearestRuleOfThrown() {
        String[] sheets = SheetsByKind.sheets();
        int[][] thrown = {{8, 1}, {13, 2}, {18, 9}, {21, 14}};
        for (int[] pair : thrown) {
            for (int at = pair[0]; at != 0; at = GROUP_OF[at]) {
                CensusDesk desk = Kit.deskWith(sheets[pair[1]]);
                setOutward(desk, at);
                desk.rule(pair[1], 0, 0);
                desk.receive();
                KIT.due("way of kind " + pair[0] + " by the rule of " + at, wayOf(desk, pair[0]), 3);
            }
        }
    }

    /** REJECT for this one, GATHER for all groups around it: the nearest is the one that counts. */
    private static void setOutward(CensusDesk desk, int at) {
        for (int around = GROUP_OF[at]; around != 0; around = GROUP_OF[around]) desk.rule(around, 1, 0);
        desk.rule(at, 3, 0);
    }

    private static int wayOf(CensusDesk desk, int kind) {
        for (int i = 0; i < desk.failures(); i++) {
            if (desk.failure(i, 0) == kind) return desk.failure(i, 4);
        }
        return -9;
    }

    private static void noneAgain() {
        CensusDesk desk = Kit.deskWith("H|1|0\n", 29, 1, 0, 14, 3, 0);
        desk.receive();
        KIT.due("the rule of the kind", desk.failure(0, 4), 3);
        desk.rule(14, -1, 0);
        desk.receive();
        KIT.due("without it that of 29", desk.failure(0, 4), 1);
        desk.rule(29, -1, 0);
        desk.receive();
        KIT.due("without any: THROW", desk.failure(0, 4), 0);
        KIT.due("and the sheet is REJECTED", desk.sum(7), 1);
    }

    private static void whileHeld() {
        CensusDesk desk = Kit.deskWith("P|x\nH|1|0\n", 19, 4, 0, 14, 1, 0);
        desk.receive();
        KIT.due("rule while held", desk.rule(14, 0, 0), -2);
        KIT.due("a wrong kind while held", desk.rule(0, 0, 0), -3);
        KIT.due("the rule is as before", desk.resume(), 0);
    }
}
