import java.lang.management.ManagementFactory;

/** The room: no call makes anything, but for the constructor, and that makes little. */
public final class RoomTest {
    private static final Kit KIT = new Kit("RoomTest");
    private static final int CALLS = 512;
    /** Elements are bytes or ints, so that some 32,000 of them are far below this. */
    private static final long MOST_OF_AN_OBJECT = 200_000;
    /** What asking for the figure itself, and the machine's own doings, may cost. */
    private static final long SLACK = 20_000;

    public static void main(String[] args) {
        CensusDesk warm = new CensusDesk();
        callAll(warm);
        long before = allocated();
        CensusDesk desk = new CensusDesk();
        long made = allocated();
        KIT.due("an object is small", made - before < MOST_OF_AN_OBJECT ? "yes" : "no: " + (made - before), "yes");
        Kit.put(desk, "X\n" + "H|1|x\n" + "P|A\u0001|m|1|\n".repeat(250) + "H\n".repeat(40));
        Kit.setRules(desk, 29, 1, 0, 9, 4, 0);
        long ahead = allocated();
        for (int n = 0; n < CALLS / 16; n++) callAll(desk);
        long spent = allocated() - ahead;
        KIT.due("calls make nothing", spent < SLACK ? "yes" : "no: " + spent, "yes");
        KIT.finish();
    }

    private static void callAll(CensusDesk desk) {
        desk.receive();
        desk.resume();
        desk.drop();
        desk.feed(0, 0, 0, 0, 0);
        desk.rule(1, 1, 0);
        desk.failures();
        desk.failure(0, 0);
        desk.many(29);
        desk.depth(0);
        desk.sheet(0);
        desk.sum(0);
        desk.house(0, 0);
        desk.person(0, 0);
        desk.sign(0, 0);
        desk.named(0x41000000, 0, 0, 0);
        desk.audit();
    }

    private static long allocated() {
        return ((com.sun.management.ThreadMXBean) ManagementFactory.getThreadMXBean()).getCurrentThreadAllocatedBytes();
    }
}
