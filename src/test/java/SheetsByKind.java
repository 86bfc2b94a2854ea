/** A sheet for each KIND that comes up without others, and whose first failure is of that KIND. */
final class SheetsByKind {
    private SheetsByKind() {
    }

    static String[] sheets() {
        String[] sheets = new String[22];
        sheets[1] = "H|1|1\nP|A\u00e9b|m|30|1\n";
        sheets[2] = "H|1|1\nP||m|30|1\n";
        sheets[3] = "H|1|1\nP|A0b|m|30|1\n";
        sheets[4] = "H|1|1\nP|Ab|m|3x|0\n";
        sheets[5] = "H|1|1\nP|Ab|m|121|1\n";
        sheets[6] = "H|1|1\nP|Ab|x|30|1\n";
        sheets[7] = "H|1|1\nP|Ab|m|30|11\n";
        sheets[9] = "H|1|1\nP|Ab|m|30|1\nX\n";
        sheets[10] = "H|1|1\nP|Ab|m|30\n";
        sheets[11] = "H|1|1\nP|Ab|m|30|1|\n";
        sheets[12] = "H|1|1\nP|Ab|m|9|1\n";
        sheets[14] = "H|1|0\n";
        sheets[15] = "H|1|2\nP|Ab|m|30|1\n";
        sheets[16] = "H|1|1\nP|Ab|m|30|1\nH|1|1\nP|Ab|m|30|1\n";
        sheets[17] = "H|1|1\nP|Ab|m|30|1\nP|Ab|f|30|2\n";
        sheets[19] = "P|Ab|m|30|1\nH|1|1\nP|Ab|m|30|1\n";
        sheets[20] = "H|1|1\nP|Ab|m|30|1\nS|2\n";
        return sheets;
    }
}
