/** Promises 1 to 3: a new object, feed, end. */
public final class TapeTest {
    private static final Kit KIT = new Kit("TapeTest");

    public static void main(String[] args) {
        newObject();
        feeding();
        ending();
        whileHeld();
        KIT.finish();
    }

    private static void newObject() {
        CensusDesk desk = new CensusDesk();
        KIT.due("NONE", CensusDesk.NONE, -1);
        KIT.due("HELD", CensusDesk.HELD, -2);
        KIT.due("new: sums", Kit.sums(desk), "0 0 0 0 0 0 0 0 0");
        KIT.due("new: failures", desk.failures(), 0);
        KIT.due("new: many(29)", desk.many(29), 0);
        KIT.due("new: audit", desk.audit(), 0);
        KIT.due("new: house", desk.house(0, 0), -1);
        KIT.due("new: person", desk.person(0, 0), -1);
        KIT.due("new: sign", desk.sign(0, 0), 0);
        KIT.due("new: named", Kit.named(desk, "Ann"), 0);
        KIT.due("new: resume", desk.resume(), -1);
        KIT.due("new: drop", desk.drop(), -1);
        for (int kind = 1; kind <= 29; kind++) KIT.due("new: no rule of " + kind, desk.rule(kind, -1, 0), -1);
        KIT.due("new: end(0)", desk.end(0), 0);
        KIT.due("new: end(1)", desk.end(1), -1);
        KIT.due("an empty TAPE is a SHEET", desk.receive(), 0);
        KIT.due("its sheet", Kit.sheet(desk), "0 0 0 0 0");
        CensusDesk other = Kit.deskWith("H|1|0\n", 14, 1, 0);
        other.receive();
        KIT.due("an object is its own", desk.sum(0), 0);
    }

    private static void feeding() {
        CensusDesk desk = new CensusDesk();
        KIT.due("feed", desk.feed(0x487c317c, 0x310a507c, 0x416e6e7c, 0x667c3334, 0x7c320a00), 20);
        KIT.due("end behind the text", desk.end(19), 19);
        KIT.due("the highest byte is first", desk.receive(), 0);
        KIT.due("the name fed", Kit.name(desk, 0), "Ann");
        KIT.due("feed goes on behind the end", desk.feed(0, 0, 0, 0, 0), 39);
        CensusDesk full = new CensusDesk();
        for (int n = 20; n <= 4000; n += 20) KIT.due("feed to " + n, full.feed(-1, -1, -1, -1, -1), n);
        KIT.due("feed to 4020", full.feed(0, 0, 0, 0, 0), -1);
        KIT.due("end(3981)", full.end(3981), 3981);
        KIT.due("feed to 4001", full.feed(0, 0, 0, 0, 0), -1);
        KIT.due("what is refused changes nothing", full.end(3982), -1);
        KIT.due("end(3980)", full.end(3980), 3980);
        KIT.due("feed to 4000", full.feed(0, 0, 0, 0, 0), 4000);
        KIT.due("end(4000)", full.end(4000), 4000);
        KIT.due("end(4001)", full.end(4001), -1);
        KIT.due("end(MAX)", full.end(Integer.MAX_VALUE), -1);
        byteOrder();
    }

    private static void byteOrder() {
        CensusDesk desk = Kit.deskWith("H|1|1\nP|ABCDEFGHIJKLMNOPQRST|m|1|\n");
        desk.receive();
        KIT.due("five numbers, their bytes in order", Kit.name(desk, 0), "ABCDEFGHIJKLMNOPQRST");
    }

    private static void ending() {
        CensusDesk desk = Kit.deskWith("H|1|0\nH|2|0\n", 14, 1, 0);
        KIT.due("end(-1)", desk.end(-1), -1);
        KIT.due("end(MIN)", desk.end(Integer.MIN_VALUE), -1);
        KIT.due("end(13)", desk.end(13), -1);
        KIT.due("end(12)", desk.end(12), 12);
        KIT.due("end(6)", desk.end(6), 6);
        KIT.due("what is cut off is gone", desk.end(7), -1);
        desk.receive();
        KIT.due("one household is left", desk.sum(0), 1);
        KIT.due("THE TAPE stays as it is", desk.end(6), 6);
        desk.receive();
        KIT.due("and is read again", desk.sum(0), 2);
    }

    private static void whileHeld() {
        CensusDesk desk = Kit.deskWith("P|x\nH|1|0\n", 19, 4, 0, 14, 1, 0);
        KIT.due("held", desk.receive(), 2);
        KIT.due("feed while held", desk.feed(1, 2, 3, 4, 5), -2);
        KIT.due("end while held", desk.end(0), -2);
        KIT.due("a wrong end while held", desk.end(11), -1);
        KIT.due("resume", desk.resume(), 0);
        KIT.due("THE TAPE had not changed", desk.end(11), -1);
        KIT.due("nor its household", desk.sum(0), 1);
    }
}
