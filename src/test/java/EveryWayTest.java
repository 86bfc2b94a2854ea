/**
 * The five WAYS for each KIND (promises 4 to 6 and 9, part 2 of the Terms). Behind what fails stands
 * a household that is as it should be, so that where reading goes on, and where it stops, is seen.
 */
public final class EveryWayTest {
    private static final Kit KIT = new Kit("EveryWayTest");
    private static final int THROW = 0, GATHER = 1, REPLACE = 2, REJECT = 3, STOP = 4;
    private static final String NEXT = "H|7|1\nP|Z|f|50|\n";

    public static void main(String[] args) {
        foreign();
        lostSign();
        empty();
        badName();
        badNumber();
        great();
        badSex();
        noTrade();
        odd();
        fewAndMany();
        child();
        lostField();
        bare();
        told();
        order();
        twice();
        lostLine();
        stray();
        sum();
        lostHouseOutside();
        lostHouseAtItsEnd();
        lostHouseAmid();
        KIT.finish();
    }

    /**
     * A sheet with NEXT behind it, by a rule and by others; due is the answer, the failures, sheet(),
     * and the first household with its first person as they are booked ("" for nothing). One that is
     * HELD is read on to its end, where sheet() tells what stands behind the sign ;
     */
    private static void by(int kind, int way, int number, String sheet, String due, int... others) {
        CensusDesk desk = Kit.deskWith(sheet + NEXT, others);
        desk.rule(kind, way, number);
        StringBuilder got = new StringBuilder();
        int answer = desk.receive();
        got.append(answer).append(": ").append(Kit.failures(desk)).append(": ").append(Kit.sheet(desk));
        String call = "kind " + kind + " by way " + way + ", " + Kit.shown(sheet);
        KIT.due(call + ": its WAY", wayOf(desk, kind), way);
        KIT.due(call + ": audit", desk.audit(), 0);
        if (answer == 2) {
            KIT.due(call + ": nothing is booked yet", Kit.sums(desk), "0 0 0 0 0 0 0 0 0");
            got.append("; ").append(desk.resume()).append(' ').append(Kit.sheet(desk));
        }
        if (desk.sum(0) > 0) got.append(": ").append(Kit.house(desk, 0));
        if (desk.sum(1) > 0) got.append(": ").append(Kit.person(desk, 0)).append(' ').append(Kit.name(desk, 0));
        KIT.due(call, got.toString(), due);
        KIT.due(call + ": audit at the end", desk.audit(), 0);
    }

    private static int wayOf(CensusDesk desk, int kind) {
        for (int i = 0; i < desk.failures(); i++) {
            if (desk.failure(i, 0) == kind) return desk.failure(i, 4);
        }
        return -9;
    }

    private static void foreign() {
        String sheet = "H|1|1\nP|A\u00e9b|m|30|1\n";
        by(1, THROW, 0, sheet, "1: 1@9 8@8>0 13@6>1 18@6>2 21@0>3: 2 0 1 0 19");
        by(1, GATHER, 101, sheet, "0: 1@9 3@9: 4 2 0 2 35: 1 1 1 0 0: 0 30 1 3 0 A\u00e9b", 3, GATHER, 0);
        by(1, REPLACE, 101, sheet, "0: 1@9: 4 2 0 2 35: 1 1 1 0 0: 0 30 1 3 0 Aeb");
        by(1, REJECT, 101, sheet, "0: 1@9: 4 2 0 2 35: 1 1 1 0 0: 0 30 1 2 0 Ab");
        by(1, STOP, 101, sheet, "2: 1@9: 2 1 0 1 19; 0 4 2 0 2 35: 1 1 1 0 0: 0 30 1 2 0 Ab");
        // "the sign a (63, if a is not 32 .. 126)"
        int[] numbers = {-1, 0, 31, 32, 33, 125, 126, 127, 128, 288, 999999};
        String[] names = {"A?b", "A?b", "A?b", "A b", "A!b", "A}b", "A~b", "A?b", "A?b", "A?b", "A?b"};
        for (int k = 0; k < numbers.length; k++) {
            boolean isBad = !names[k].equals("A b");
            by(1, REPLACE, numbers[k], sheet, "0: 1@9" + (isBad ? " 3@9" : "") + ": 4 2 0 2 35: 1 1 1 0 0: 0 30 1 3 0 " + names[k],
                3, GATHER, 0);
        }
        by(1, REPLACE, 124, sheet, "0: 1@9 3@9: 4 2 0 2 35: 1 1 1 0 0: 0 30 1 3 0 A|b", 3, GATHER, 0);
        by(1, REPLACE, 10, sheet, "0: 1@9 3@9: 4 2 0 2 35: 1 1 1 0 0: 0 30 1 3 0 A?b", 3, GATHER, 0);
    }

    private static void lostSign() {
        String sheet = "H|1|1\nP|A\u00e9b|m|30|1\n";
        by(8, THROW, 0, sheet, "1: 1@9 8@8>0 13@6>1 18@6>2 21@0>3: 2 0 1 0 19");
        by(8, GATHER, 65, sheet, "0: 1@9 8@8>0: 4 2 0 2 35: 1 1 1 0 0: 0 30 1 2 0 Ab");
        by(8, REPLACE, 65, sheet, "0: 1@9 8@8>0: 4 2 0 2 35: 1 1 1 0 0: 0 30 1 2 0 Ab");
        by(8, REJECT, 65, sheet, "0: 1@9 8@8>0: 4 2 0 2 35: 1 1 1 0 0: 0 30 1 0 0 ");
        by(8, STOP, 65, sheet, "2: 1@9 8@8>0: 2 1 0 1 19; 0 4 2 0 2 35: 1 1 1 0 0: 0 30 1 0 0 ");
        String age = "H|1|1\nP|Ab|m|\u00013|0\n";
        by(8, REPLACE, 65, age, "0: 1@13 8@13>0: 4 2 0 2 34: 1 1 1 0 0: 0 3 0 2 0 Ab");
        by(8, REJECT, 65, age, "0: 1@13 8@13>0: 4 2 0 2 34: 1 1 1 0 0: 0 -1 0 2 0 Ab");
    }

    private static void empty() {
        String sheet = "H|1|1\nP||m|30|1\n";
        by(2, THROW, 0, sheet, "1: 2@8 13@6>0 18@6>1 21@0>2: 2 0 1 0 16");
        by(2, GATHER, 65, sheet, "0: 2@8: 4 2 0 2 32: 1 1 1 0 0: 0 30 1 0 0 ");
        by(2, REPLACE, 65, sheet, "0: 2@8: 4 2 0 2 32: 1 1 1 0 0: 0 30 1 0 0 ");
        by(2, REJECT, 65, sheet, "0: 2@8: 4 2 0 2 32: 1 1 1 0 0: 0 30 1 0 0 ");
        by(2, STOP, 65, sheet, "2: 2@8: 2 1 0 1 16; 0 4 2 0 2 32: 1 1 1 0 0: 0 30 1 0 0 ");
    }

    private static void badName() {
        String sheet = "H|1|1\nP|A0b|m|30|1\n";
        by(3, THROW, 0, sheet, "1: 3@9 13@6>0 18@6>1 21@0>2: 2 0 1 0 19");
        by(3, GATHER, 65, sheet, "0: 3@9: 4 2 0 2 35: 1 1 1 0 0: 0 30 1 3 0 A0b");
        by(3, REPLACE, 65, sheet, "0: 3@9: 4 2 0 2 35: 1 1 1 0 0: 0 30 1 3 0 A0b");
        by(3, REJECT, 65, sheet, "0: 3@9: 4 2 0 2 35: 1 1 1 0 0: 0 30 1 0 0 ");
        by(3, STOP, 65, sheet, "2: 3@9: 2 1 0 1 19; 0 4 2 0 2 35: 1 1 1 0 0: 0 30 1 0 0 ");
        String thirty = "ab".repeat(15);
        String longer = "H|1|1\nP|" + thirty + "c|m|30|1\n";
        by(3, GATHER, 65, longer, "0: 3@38: 4 2 0 2 63: 1 1 1 0 0: 0 30 1 30 0 " + thirty);
        by(3, REPLACE, 65, longer, "0: 3@38: 4 2 0 2 63: 1 1 1 0 0: 0 30 1 30 0 " + thirty);
        by(3, REJECT, 65, longer, "0: 3@38: 4 2 0 2 63: 1 1 1 0 0: 0 30 1 0 0 ");
    }

    private static void badNumber() {
        String sheet = "H|1|1\nP|Ab|m|3x|0\n";
        by(4, THROW, 0, sheet, "1: 4@13 13@6>0 18@6>1 21@0>2: 2 0 1 0 18");
        by(4, GATHER, 500, sheet, "0: 4@13: 4 2 0 2 34: 1 1 1 0 0: 0 3 0 2 0 Ab");
        by(4, REJECT, 500, sheet, "0: 4@13: 4 2 0 2 34: 1 1 1 0 0: 0 -1 0 2 0 Ab");
        by(4, STOP, 500, sheet, "2: 4@13: 2 1 0 1 18; 0 4 2 0 2 34: 1 1 1 0 0: 0 -1 0 2 0 Ab");
        // "the value a (GREAT is not asked of it)"
        int[] numbers = {-1, 0, 1, 120, 121, 500, 999998, 999999};
        for (int a : numbers) {
            by(4, REPLACE, a, sheet, "0: 4@13: 4 2 0 2 34: 1 1 1 0 0: 0 " + a + " 0 2 0 Ab");
            // The household behind it has the number 7.
            String order = a < 7 ? "" : " 16@17";
            by(4, REPLACE, a, "H|x|1\nP|Ab|m|3|0\n", "0: 4@2" + order + ": 4 2 0 2 33: " + a + " 1 1 0 0: 0 3 0 2 0 Ab",
                16, GATHER, 0);
        }
    }

    private static void great() {
        String sheet = "H|1|1\nP|Ab|m|121|1\n";
        by(5, THROW, 0, sheet, "1: 5@13 13@6>0 18@6>1 21@0>2: 2 0 1 0 19");
        by(5, GATHER, 500, sheet, "0: 5@13: 4 2 0 2 35: 1 1 1 0 0: 0 121 1 2 0 Ab");
        by(5, REJECT, 500, sheet, "0: 5@13: 4 2 0 2 35: 1 1 1 0 0: 0 -1 1 2 0 Ab");
        by(5, STOP, 500, sheet, "2: 5@13: 2 1 0 1 19; 0 4 2 0 2 35: 1 1 1 0 0: 0 -1 1 2 0 Ab");
        int[] numbers = {-1, 10, 120, 121, 999999};
        for (int a : numbers) by(5, REPLACE, a, sheet, "0: 5@13: 4 2 0 2 35: 1 1 1 0 0: 0 " + a + " 1 2 0 Ab");
    }

    private static void badSex() {
        String sheet = "H|1|1\nP|Ab|x|30|1\n";
        by(6, THROW, 0, sheet, "1: 6@11 13@6>0 18@6>1 21@0>2: 2 0 1 0 18");
        by(6, GATHER, 1, sheet, "0: 6@11: 4 2 0 2 34: 1 1 1 0 0: -1 30 1 2 0 Ab");
        by(6, REJECT, 1, sheet, "0: 6@11: 4 2 0 2 34: 1 1 1 0 0: -1 30 1 2 0 Ab");
        by(6, STOP, 1, sheet, "2: 6@11: 2 1 0 1 18; 0 4 2 0 2 34: 1 1 1 0 0: -1 30 1 2 0 Ab");
        // "of 6 if a is 0 or 1, else MISSING"
        int[] numbers = {-1, 0, 1, 2, 109, 999999};
        int[] sexes = {-1, 0, 1, -1, -1, -1};
        for (int k = 0; k < numbers.length; k++) {
            by(6, REPLACE, numbers[k], sheet, "0: 6@11: 4 2 0 2 34: 1 1 1 0 0: " + sexes[k] + " 30 1 2 0 Ab");
        }
    }

    private static void noTrade() {
        String sheet = "H|1|1\nP|Ab|m|30|11\n";
        by(7, THROW, 0, sheet, "1: 7@16 13@6>0 18@6>1 21@0>2: 2 0 1 0 19");
        by(7, GATHER, 8, sheet, "0: 7@16: 4 2 0 2 35: 1 1 1 0 0: 0 30 -1 2 0 Ab");
        by(7, REJECT, 8, sheet, "0: 7@16: 4 2 0 2 35: 1 1 1 0 0: 0 30 -1 2 0 Ab");
        by(7, STOP, 8, sheet, "2: 7@16: 2 1 0 1 19; 0 4 2 0 2 35: 1 1 1 0 0: 0 30 -1 2 0 Ab");
        int[] numbers = {-1, 0, 9, 10, 999999};
        for (int a : numbers) by(7, REPLACE, a, sheet, "0: 7@16: 4 2 0 2 35: 1 1 1 0 0: 0 30 " + a + " 2 0 Ab");
    }

    private static void odd() {
        String sheet = "H|1|1\nP|Ab|m|30|1\nX\n";
        by(9, THROW, 0, sheet, "1: 9@18 18@18>0 21@0>1: 3 0 1 0 20");
        by(9, GATHER, 72, sheet, "0: 9@18: 5 2 0 2 36: 1 1 1 0 0: 0 30 1 2 0 Ab");
        by(9, REPLACE, 72, sheet, "0: 9@18: 5 2 0 2 36: 1 1 1 0 0: 0 30 1 2 0 Ab");
        by(9, REJECT, 72, sheet, "0: 9@18: 5 2 0 2 36: 1 1 1 0 0: 0 30 1 2 0 Ab");
        by(9, STOP, 72, sheet, "2: 9@18: 3 1 0 1 20; 0 5 2 0 2 36: 1 1 1 0 0: 0 30 1 2 0 Ab");
        // "ODD: the LINE is LOST all the same": that of a person is not taken, that of a household has no number.
        by(9, GATHER, 0, "H|1|0\nPx|Ab|m|30|1\n", "0: 9@6 14@0: 4 2 0 1 35: 1 0 0 0 0: 1 50 0 1 1 Z", 14, GATHER, 0);
        by(9, REPLACE, 0, "Hx|1|1\n", "0: 9@0 14@0: 3 2 0 1 23: -1 -1 0 0 0: 1 50 0 1 1 Z", 14, GATHER, 0);
        by(9, GATHER, 0, "Sx|7\n", "0: 9@0: 3 1 0 1 21: 7 1 1 0 0: 1 50 0 1 0 Z");
    }

    private static void fewAndMany() {
        String few = "H|1|1\nP|Ab|m|30\n";
        int[] others = {14, GATHER, 0, 15, GATHER, 0};
        by(10, THROW, 0, few, "1: 10@6 18@6>0 21@0>1: 2 0 1 0 16", others);
        by(10, GATHER, 9, few, "0: 10@6: 4 2 0 2 32: 1 1 1 0 0: 0 30 0 2 0 Ab", others);
        by(10, REPLACE, 9, few, "0: 10@6: 4 2 0 2 32: 1 1 1 0 0: 0 30 0 2 0 Ab", others);
        by(10, REJECT, 9, few, "0: 10@6 14@0 15@0~1: 4 2 0 1 32: 1 1 0 0 0: 1 50 0 1 1 Z", others);
        by(10, STOP, 9, few, "2: 10@6 14@0 15@0~1: 2 1 0 0 16; 0 4 2 0 1 32: 1 1 0 0 0: 1 50 0 1 1 Z", others);
        String many = "H|1|1\nP|Ab|m|30|1|\n";
        by(11, THROW, 0, many, "1: 11@6 18@6>0 21@0>1: 2 0 1 0 19", others);
        by(11, GATHER, 9, many, "0: 11@6: 4 2 0 2 35: 1 1 1 0 0: 0 30 1 2 0 Ab", others);
        by(11, REPLACE, 9, many, "0: 11@6: 4 2 0 2 35: 1 1 1 0 0: 0 30 1 2 0 Ab", others);
        by(11, REJECT, 9, many, "0: 11@6 14@0 15@0~1: 4 2 0 1 35: 1 1 0 0 0: 1 50 0 1 1 Z", others);
        by(11, STOP, 9, many, "2: 11@6 14@0 15@0~1: 2 1 0 0 19; 0 4 2 0 1 35: 1 1 0 0 0: 1 50 0 1 1 Z", others);
    }

    private static void child() {
        String sheet = "H|1|1\nP|Ab|m|9|1\n";
        int[] others = {14, GATHER, 0, 15, GATHER, 0};
        by(12, THROW, 0, sheet, "1: 12@6 18@6>0 21@0>1: 2 0 1 0 17", others);
        by(12, GATHER, 0, sheet, "0: 12@6: 4 2 0 2 33: 1 1 1 0 0: 0 9 1 2 0 Ab", others);
        by(12, REPLACE, 0, sheet, "0: 12@6: 4 2 0 2 33: 1 1 1 0 0: 0 9 1 2 0 Ab", others);
        by(12, REJECT, 0, sheet, "0: 12@6 14@0 15@0~1: 4 2 0 1 33: 1 1 0 0 0: 1 50 0 1 1 Z", others);
        by(12, STOP, 0, sheet, "2: 12@6 14@0 15@0~1: 2 1 0 0 17; 0 4 2 0 1 33: 1 1 0 0 0: 1 50 0 1 1 Z", others);
    }

    private static void lostField() {
        String sheet = "H|1|1\nP|Ab|m|3x|0\n";
        int[] others = {14, GATHER, 0, 15, GATHER, 0};
        by(13, THROW, 0, sheet, "1: 4@13 13@6>0 18@6>1 21@0>2: 2 0 1 0 18", others);
        by(13, GATHER, 5, sheet, "0: 4@13 13@6>0: 4 2 0 2 34: 1 1 1 0 0: 0 -1 0 2 0 Ab", others);
        by(13, REPLACE, 5, sheet, "0: 4@13 13@6>0: 4 2 0 2 34: 1 1 1 0 0: 0 -1 0 2 0 Ab", others);
        by(13, REJECT, 5, sheet, "0: 4@13 13@6>0 14@0 15@0~2: 4 2 0 1 34: 1 1 0 0 0: 1 50 0 1 1 Z", others);
        by(13, STOP, 5, sheet, "2: 4@13 13@6>0 14@0 15@0~2: 2 1 0 0 18; 0 4 2 0 1 34: 1 1 0 0 0: 1 50 0 1 1 Z", others);
    }

    private static void bare() {
        String sheet = "H|1|0\n";
        by(14, THROW, 0, sheet, "1: 14@0 21@0>0: 1 0 1 0 6");
        by(14, GATHER, 0, sheet, "0: 14@0: 3 2 0 1 22: 1 0 0 0 0: 1 50 0 1 1 Z");
        by(14, REPLACE, 0, sheet, "0: 14@0: 3 2 0 1 22: 1 0 0 0 0: 1 50 0 1 1 Z");
        by(14, REJECT, 0, sheet, "0: 14@0: 3 1 1 1 22: 7 1 1 0 0: 1 50 0 1 0 Z");
        by(14, STOP, 0, sheet, "2: 14@0: 1 0 1 0 6; 0 3 1 1 1 22: 7 1 1 0 0: 1 50 0 1 0 Z");
    }

    private static void told() {
        String sheet = "H|1|2\nP|Ab|m|30|1\n";
        by(15, THROW, 0, sheet, "1: 15@0 21@0>0: 2 0 1 0 18");
        by(15, GATHER, 0, sheet, "0: 15@0: 4 2 0 2 34: 1 2 1 0 0: 0 30 1 2 0 Ab");
        by(15, REPLACE, 1, sheet, "0: 15@0: 4 2 0 2 34: 1 2 1 0 0: 0 30 1 2 0 Ab");
        by(15, REJECT, 0, sheet, "0: 15@0: 4 1 1 1 34: 7 1 1 0 0: 1 50 0 1 0 Z");
        by(15, STOP, 0, sheet, "2: 15@0: 2 0 1 0 18; 0 4 1 1 1 34: 7 1 1 0 0: 1 50 0 1 0 Z");
    }

    private static void order() {
        String sheet = "H|1|1\nP|Ab|m|30|1\nH|1|1\nP|Ab|m|30|1\n";
        by(16, THROW, 0, sheet, "1: 16@18 21@18>0: 4 1 1 1 36");
        by(16, GATHER, 0, sheet, "0: 16@18: 6 3 0 3 52: 1 1 1 0 0: 0 30 1 2 0 Ab");
        by(16, REPLACE, 6, sheet, "0: 16@18: 6 3 0 3 52: 1 1 1 0 0: 0 30 1 2 0 Ab");
        by(16, REJECT, 0, sheet, "0: 16@18: 6 2 1 2 52: 1 1 1 0 0: 0 30 1 2 0 Ab");
        by(16, STOP, 0, sheet, "2: 16@18: 4 1 1 1 36; 0 6 2 1 2 52: 1 1 1 0 0: 0 30 1 2 0 Ab");
    }

    private static void twice() {
        String sheet = "H|1|1\nP|Ab|m|30|1\nP|Ab|f|30|2\n";
        by(17, THROW, 0, sheet, "1: 17@18 18@18>0~0 21@0>1: 3 0 1 0 30", 15, GATHER, 0);
        by(17, GATHER, 0, sheet, "0: 17@18 15@0~0: 5 2 0 3 46: 1 1 2 0 0: 0 30 1 2 0 Ab", 15, GATHER, 0);
        by(17, REPLACE, 0, sheet, "0: 17@18 15@0~0: 5 2 0 3 46: 1 1 2 0 0: 0 30 1 2 0 Ab", 15, GATHER, 0);
        by(17, REJECT, 0, sheet, "0: 17@18: 5 2 0 2 46: 1 1 1 0 0: 0 30 1 2 0 Ab");
        by(17, STOP, 0, sheet, "2: 17@18: 3 1 0 1 30; 0 5 2 0 2 46: 1 1 1 0 0: 0 30 1 2 0 Ab");
        // "for 17 alone the line is what is LOST": the household is not, if LOSTLINE goes on.
        by(17, THROW, 0, sheet, "0: 17@18 18@18>0~0: 5 2 0 2 46: 1 1 1 0 0: 0 30 1 2 0 Ab", 18, GATHER, 0);
    }

    /** The last LINE of the household is passed over where it is LOST. */
    private static void lostLine() {
        String sheet = "H|1|1\nP|Ab|m|30|1\nX\nP|Cd|m|3|\n";
        by(18, THROW, 0, sheet, "1: 9@18 18@18>0 21@0>1: 3 0 1 0 20");
        by(18, GATHER, 0, sheet, "0: 9@18 18@18>0 15@0~1: 6 2 0 3 46: 1 1 2 0 0: 0 30 1 2 0 Ab", 15, GATHER, 0);
        by(18, REPLACE, 0, sheet, "0: 9@18 18@18>0 15@0~1: 6 2 0 3 46: 1 1 2 0 0: 0 30 1 2 0 Ab", 15, GATHER, 0);
        by(18, REJECT, 0, sheet, "0: 9@18 18@18>0: 5 1 1 1 46: 7 1 1 0 0: 1 50 0 1 0 Z");
        by(18, STOP, 0, sheet, "2: 9@18 18@18>0: 3 0 1 0 30; 0 5 1 1 1 46: 7 1 1 0 0: 1 50 0 1 0 Z");
    }

    private static void stray() {
        String sheet = "P|Ab|m|30|1\n";
        by(19, THROW, 0, sheet, "1: 19@0: 1 0 0 0 12");
        by(19, GATHER, 0, sheet, "0: 19@0: 3 1 0 1 28: 7 1 1 0 0: 1 50 0 1 0 Z");
        by(19, REPLACE, 0, sheet, "0: 19@0: 3 1 0 1 28: 7 1 1 0 0: 1 50 0 1 0 Z");
        by(19, REJECT, 0, sheet, "1: 19@0: 1 0 0 0 12");
        by(19, STOP, 0, sheet, "2: 19@0: 1 0 0 0 12; 0 3 1 0 1 28: 7 1 1 0 0: 1 50 0 1 0 Z");
    }

    private static void sum() {
        String sheet = "S|2\n";
        by(20, THROW, 0, sheet, "1: 20@0: 1 0 0 0 4");
        by(20, GATHER, 0, sheet, "0: 20@0: 3 1 0 1 20: 7 1 1 0 0: 1 50 0 1 0 Z");
        by(20, REPLACE, 0, sheet, "0: 20@0: 3 1 0 1 20: 7 1 1 0 0: 1 50 0 1 0 Z");
        by(20, REJECT, 0, sheet, "1: 20@0: 1 0 0 0 4");
        by(20, STOP, 0, sheet, "2: 20@0: 1 0 0 0 4; 0 3 1 0 1 20: 7 1 1 0 0: 1 50 0 1 0 Z");
    }

    private static void lostHouseOutside() {
        String sheet = "X\n";
        by(21, THROW, 0, sheet, "1: 9@0 21@0>0: 1 0 0 0 2");
        by(21, GATHER, 0, sheet, "0: 9@0 21@0>0: 3 1 0 1 18: 7 1 1 0 0: 1 50 0 1 0 Z");
        by(21, REPLACE, 0, sheet, "0: 9@0 21@0>0: 3 1 0 1 18: 7 1 1 0 0: 1 50 0 1 0 Z");
        by(21, REJECT, 0, sheet, "1: 9@0 21@0>0: 1 0 0 0 2");
        by(21, STOP, 0, sheet, "2: 9@0 21@0>0: 1 0 0 0 2; 0 3 1 0 1 18: 7 1 1 0 0: 1 50 0 1 0 Z");
    }

    private static void lostHouseAtItsEnd() {
        String sheet = "H|1|0\n";
        by(21, THROW, 0, sheet, "1: 14@0 21@0>0: 1 0 1 0 6");
        by(21, GATHER, 0, sheet, "0: 14@0 21@0>0: 3 1 1 1 22: 7 1 1 0 0: 1 50 0 1 0 Z");
        by(21, REPLACE, 0, sheet, "0: 14@0 21@0>0: 3 1 1 1 22: 7 1 1 0 0: 1 50 0 1 0 Z");
        by(21, REJECT, 0, sheet, "1: 14@0 21@0>0: 1 0 1 0 6");
        by(21, STOP, 0, sheet, "2: 14@0 21@0>0: 1 0 1 0 6; 0 3 1 1 1 22: 7 1 1 0 0: 1 50 0 1 0 Z");
    }

    /** By its last LINE, so that what is behind that is behind the household, too. */
    private static void lostHouseAmid() {
        String sheet = "H|1|1\nX\n";
        by(21, THROW, 0, sheet, "1: 9@6 18@6>0 21@0>1: 2 0 1 0 8");
        by(21, GATHER, 0, sheet, "0: 9@6 18@6>0 21@0>1: 4 1 1 1 24: 7 1 1 0 0: 1 50 0 1 0 Z");
        by(21, REPLACE, 0, sheet, "0: 9@6 18@6>0 21@0>1: 4 1 1 1 24: 7 1 1 0 0: 1 50 0 1 0 Z");
        by(21, REJECT, 0, sheet, "1: 9@6 18@6>0 21@0>1: 2 0 1 0 8");
        by(21, STOP, 0, sheet, "2: 9@6 18@6>0 21@0>1: 2 0 1 0 8; 0 4 1 1 1 24: 7 1 1 0 0: 1 50 0 1 0 Z");
    }
}
