/** Promises 11 to 16: deliver, lose, copy, spoil, units, unit. */
final class LinkTest {
    private static final int[] NO_UNITS = {-1, 4, 24, 25, Integer.MIN_VALUE, Integer.MAX_VALUE};

    private LinkTest() {
    }

    public static void main(String[] args) {
        wrongUnits();
        unitFields();
        order();
        lose();
        copyAndLimit();
        fullLinkLoses();
        deliverMakesRoom();
        spoil();
        spoilOfCopy();
        Check.end();
    }

    /** METADATA, two DATA (four bytes and two), END. */
    private static Script four(String name) {
        Script s = new Script(name, 0).file(0, 1, 6);
        s.x.put(0, 1, 2, 2, 0, 0);
        return s.ticks(4).kinds(Script.METADATA, Script.DATA, Script.DATA, Script.END);
    }

    private static void wrongUnits() {
        Script s = four("wrong units");
        for (int k : NO_UNITS) {
            s.due("deliver(" + k + ")", s.x.deliver(k), false);
            s.due("lose(" + k + ")", s.x.lose(k), false);
            s.due("copy(" + k + ")", s.x.copy(k), false);
            s.due("spoil(" + k + ")", s.x.spoil(k, 1), false);
            for (int w = 0; w <= 3; w++) {
                s.due("unit(" + k + ", " + w + ")", s.x.unit(k, w), -1);
            }
        }
        for (int w : new int[] {-1, 4, Integer.MIN_VALUE, Integer.MAX_VALUE}) {
            s.due("unit(0, " + w + ")", s.x.unit(0, w), -1);
        }
        s.due("units()", s.x.units(), 4);
        Script none = new Script("no units", 0);
        none.due("deliver(0)", none.x.deliver(0), false);
        none.due("lose(0)", none.x.lose(0), false);
        none.due("copy(0)", none.x.copy(0), false);
        none.due("spoil(0)", none.x.spoil(0, 1), false);
        none.due("unit(0, 0)", none.x.unit(0, 0), -1);
    }

    private static void unitFields() {
        Script s = four("unit");
        int[] details = {2, 0, 1, 6};
        for (int k = 0; k < 4; k++) {
            s.due("goes to", s.x.unit(k, 1), 1);
            s.due("number", s.x.unit(k, 2), 1);
            s.detail(k, details[k]);
        }
        s.x.deliver(3);
        s.kinds(Script.METADATA, Script.DATA, Script.DATA, Script.ACK, Script.NAK);
        s.detail(3, 3).detail(4, 9);
        s.due("goes back", s.x.unit(3, 1), 0);
        s.due("number", s.x.unit(4, 2), 1);
        s.x.deliver(2);
        s.x.deliver(1);
        s.x.deliver(0);
        s.kinds(Script.ACK, Script.NAK, Script.FINISHED).detail(2, Script.DONE);
        s.due("goes back", s.x.unit(2, 1), 0);
        s.x.deliver(2);
        s.kinds(Script.ACK, Script.NAK, Script.ACK).detail(2, 4);
        s.due("goes forth", s.x.unit(2, 1), 1);
    }

    /** Units of both entities stand in the order of a tick: entity 0, then 1, by their numbers. */
    private static void order() {
        Script s = new Script("order", 0).file(0, 0, 1).file(1, 0, 1);
        s.x.put(1, 0, 0, 1, 0, 0);
        s.x.put(0, 0, 0, 1, 0, 0);
        s.x.put(0, 0, 0, 1, 0, 0);
        s.ticks(1);
        int[][] due = {{1, 1}, {1, 2}, {0, 1}};
        s.kinds(Script.METADATA, Script.METADATA, Script.METADATA);
        for (int k = 0; k < 3; k++) {
            s.due("goes to", s.x.unit(k, 1), due[k][0]);
            s.due("number", s.x.unit(k, 2), due[k][1]);
        }
    }

    private static void lose() {
        Script s = four("lose");
        s.due("lose", s.x.lose(1), true);
        s.kinds(Script.METADATA, Script.DATA, Script.END).detail(1, 1);
        s.due("lose the last", s.x.lose(2), true);
        s.due("lose beyond", s.x.lose(2), false);
        s.due("lose", s.x.lose(0), true);
        s.due("lose", s.x.lose(0), true);
        s.kinds().receiver(0, 1, 0);
    }

    private static void copyAndLimit() {
        Script s = four("copy");
        s.due("copy", s.x.copy(2), true);
        s.kinds(Script.METADATA, Script.DATA, Script.DATA, Script.END, Script.DATA).detail(4, 1);
        s.due("goes to", s.x.unit(4, 1), 1);
        s.due("number", s.x.unit(4, 2), 1);
        for (int i = 5; i < 24; i++) {
            s.due("copy " + i, s.x.copy(i - 1), true);
        }
        s.due("units()", s.x.units(), 24);
        s.due("copy beyond 24", s.x.copy(0), false);
        s.due("units()", s.x.units(), 24);
        s.due("unit(23, 0)", s.x.unit(23, 0), Script.DATA);
        s.due("unit(24, 0)", s.x.unit(24, 0), -1);
        s.due("lose the last", s.x.lose(23), true);
        s.due("copy again", s.x.copy(3), true);
        s.due("unit(23, 0)", s.x.unit(23, 0), Script.END);
    }

    private static void fillUp(Script s, int k) {
        while (s.x.units() < 24) {
            s.due("copy", s.x.copy(k), true);
        }
    }

    /** What is sent while 24 are under way is lost, and counts as sent. */
    private static void fullLinkLoses() {
        Script s = new Script("full", 0).file(0, 0, 8);
        s.x.put(0, 0, 0, 1, 0, 0);
        s.ticks(1);
        fillUp(s, 0);
        s.ticks(2);
        s.due("units()", s.x.units(), 24);
        s.loseAll().ticks(1).kinds(Script.END).sender(0, 1, Script.DONE);
    }

    /** The unit that is delivered is under way no more when it is answered. */
    private static void deliverMakesRoom() {
        Script s = new Script("room", 0).file(0, 0, 0);
        s.x.put(0, 0, 0, 2, 0, 0);
        s.ticks(2);
        s.x.deliver(0);
        fillUp(s, 0);
        s.due("deliver END", s.x.deliver(0), true);
        s.due("units()", s.x.units(), 24);
        s.due("the ACK is sent, FINISHED is lost", s.x.unit(23, 0), Script.ACK);
        s.receiver(0, 1, Script.ENDED);
        s.quietThen(3, Script.END, Script.FINISHED);
    }

    private static void spoil() {
        Script s = four("spoil");
        s.due("METADATA", s.x.spoil(0, 1), false);
        s.due("END", s.x.spoil(3, 1), false);
        s.due("first", s.x.spoil(1, 0x80040201), true);
        s.due("spoiled back", s.x.spoil(1, 0x80040201), true);
        s.due("bits behind its two bytes", s.x.spoil(2, 0xffff0000), true);
        s.due("no bits", s.x.spoil(2, 0), true);
        s.deliverAll().receiver(0, 1, Script.DONE).size(1, 2, 6);
        for (int i = 0; i < 6; i++) {
            s.due("byte " + i, s.x.at(1, 2, i), i + 1);
        }
        spoilKeepsSum();
    }

    /** Two bytes change places between segments: the checksum is the same, so the bytes are seen. */
    private static void spoilKeepsSum() {
        Script s = four("spoil with the same sum");
        s.x.spoil(1, 5 ^ 1 | (2 ^ 6) << 8);
        s.x.spoil(2, 1 ^ 5 | (6 ^ 2) << 8);
        s.deliverAll().receiver(0, 1, Script.DONE);
        int[] due = {5, 6, 3, 4, 1, 2};
        for (int i = 0; i < 6; i++) {
            s.due("byte " + i, s.x.at(1, 2, i), due[i]);
        }
        Script last = four("spoil of the highest bits");
        last.x.spoil(1, 0x01000000);
        last.deliverAll().receiver(0, 1, Script.FAILED).sender(0, 1, Script.FAILED).size(1, 2, -1);
    }

    private static void spoilOfCopy() {
        Script s = four("spoil of a copy");
        s.x.copy(1);
        s.x.spoil(4, 255);
        s.x.deliver(1);
        s.due("the copy comes later, the first one counts", s.x.deliver(3), true);
        s.deliverAll().receiver(0, 1, Script.DONE).sender(0, 1, Script.DONE);
        Script t = four("copy of a spoiled one");
        t.x.spoil(1, 255);
        t.x.copy(1);
        t.x.lose(1);
        t.x.deliver(3);
        t.deliverAll().receiver(0, 1, Script.FAILED);
    }
}
