/** Promises 10, 11 and 18: what receivers note, ask for and answer, and when they end. T is 4. */
final class ReceiverTest {
    private ReceiverTest() {
    }

    public static void main(String[] args) {
        openedByEachKind();
        threeOpen();
        endedOnesAreOpen();
        anyOrder();
        firstOneCounts();
        checksum();
        rejected();
        replaces();
        gaps();
        naksAreRepeated();
        finishedIsRepeated();
        classOneGivesUp();
        silenceWithoutEnd();
        everyUnitPutsSilenceOff();
        endIsAlwaysAcknowledged();
        cancelled();
        cancelledBehindEnd();
        endedNotesNothing();
        orderInATick();
        bothDirections();
        Check.end();
    }

    /** All units of one file are under way: METADATA at 0, segment i at i + 1, then END. */
    private static Script under(String name, int size, int kind) {
        Script s = new Script(name, 0).file(0, 0, size);
        s.x.put(0, 0, 1, kind, 0, 0);
        return s.ticks(2 + (size + 3) / 4);
    }

    private static void loseBut(Script s, int... kept) {
        int count = s.x.units();
        for (int k = count - 1; k >= 0; k--) {
            boolean keep = false;
            for (int one : kept) {
                keep |= one == k;
            }
            if (!keep) {
                s.x.lose(k);
            }
        }
    }

    private static void openedByEachKind() {
        for (int k = 0; k < 3; k++) {
            Script s = under("opened by " + k, 4, 1).receiver(0, 1, 0);
            s.x.deliver(k);
            s.receiver(0, 1, Script.OPEN).receiver(1, 1, 0).sender(1, 1, 0);
        }
        Script s = under("an ACK of FINISHED opens none", 0, 2);
        s.deliverAll().receiver(0, 1, Script.DONE);
    }

    private static void threeOpen() {
        Script s = new Script("three receivers", 0).file(0, 0, 0);
        for (int i = 0; i < 3; i++) {
            s.x.put(0, 0, i, 1, 0, 0);
        }
        s.ticks(2);
        s.x.put(0, 0, 3, 2, 0, 0);
        s.ticks(2);
        s.kinds(Script.METADATA, Script.METADATA, Script.METADATA, Script.END, Script.END, Script.END, Script.METADATA, Script.END);
        s.x.deliver(0);
        s.x.deliver(0);
        s.x.deliver(0);
        s.receiver(0, 3, Script.OPEN);
        s.due("deliver", s.x.deliver(3), true);
        s.receiver(0, 4, 0);
        s.due("deliver END", s.x.deliver(3), true);
        s.receiver(0, 4, 0).kinds(Script.END, Script.END, Script.END);
        s.x.deliver(0);
        s.receiver(0, 1, Script.DONE).quietThen(3, Script.END);
        s.x.deliver(0);
        s.receiver(0, 4, Script.OPEN).kinds(Script.ACK, Script.NAK).detail(1, 8);
        closingMakesRoomAtOnce();
    }

    private static void closingMakesRoomAtOnce() {
        Script s = new Script("room at once", 0).file(0, 0, 0);
        for (int i = 0; i < 3; i++) {
            s.x.put(0, 0, i, 1, 0, 0);
        }
        s.ticks(2);
        s.x.put(0, 0, 3, 1, 0, 0);
        s.ticks(1);
        for (int i = 0; i < 4; i++) {
            s.x.deliver(0);
        }
        s.receiver(0, 1, Script.DONE).receiver(0, 3, Script.OPEN).receiver(0, 4, 0);
        s.x.deliver(2);
        s.receiver(0, 4, Script.OPEN);
    }

    private static void anyOrder() {
        Script s = under("backwards", 10, 1);
        for (int k = 4; k >= 1; k--) {
            s.x.deliver(k);
            s.receiver(0, 1, Script.OPEN);
        }
        s.x.deliver(0);
        s.receiver(0, 1, Script.DONE).size(1, 1, 10);
    }

    /** One that has ended but is open still counts among the three. */
    private static void endedOnesAreOpen() {
        Script t = new Script("ended ones are open", 0).file(0, 0, 0);
        for (int i = 0; i < 3; i++) {
            t.x.put(0, 0, i, 2, 0, 0);
        }
        t.ticks(2);
        for (int i = 0; i < 6; i++) {
            t.x.deliver(0);
        }
        t.receiver(0, 1, Script.ENDED).receiver(0, 3, Script.ENDED);
        for (int i = 0; i < 6; i++) {
            t.x.deliver(0);
        }
        t.sender(0, 1, Script.DONE).receiver(0, 1, Script.ENDED).loseAll();
        t.x.put(0, 0, 5, 1, 0, 0);
        t.ticks(1).kinds(Script.METADATA).deliverAll().receiver(0, 4, 0);
    }

    private static void firstOneCounts() {
        Script s = under("first segment counts", 4, 1);
        s.x.copy(1);
        s.x.spoil(1, 255);
        s.x.deliver(1);
        s.x.deliver(2);
        s.deliverAll().receiver(0, 1, Script.FAILED).size(1, 1, -1);
        Script t = under("second segment is spoiled", 4, 1);
        t.x.copy(1);
        t.x.spoil(3, 255);
        t.deliverAll().receiver(0, 1, Script.DONE).size(1, 1, 4);
    }

    /** The first byte of a segment is the highest; a carry beyond 32 bits falls away. */
    private static void checksum() {
        Script s = new Script("sum modulo 2^32", 0).file(0, 0, 0);
        s.x.append(0, 0, 8, 0xff_00_00_80_00_00_00_80L);
        s.x.put(0, 0, 1, 1, 0, 0);
        s.ticks(4);
        s.x.spoil(1, 0x80);
        s.x.spoil(2, 0x80);
        s.deliverAll().receiver(0, 1, Script.DONE);
        s.due("byte 0", s.x.at(1, 1, 0), 0);
        Script high = new Script("bytes above 127", 0).file(0, 0, 0);
        high.x.append(0, 0, 8, 0x01_00_00_00_7f_00_00_00L);
        high.x.put(0, 0, 1, 1, 0, 0);
        high.ticks(4);
        high.x.spoil(1, (0x7f ^ 0x80) << 24);
        high.x.spoil(2, 1 << 24);
        high.deliverAll().receiver(0, 1, Script.DONE);
        high.due("byte 3", high.x.at(1, 1, 3), 0x80);
        Script t = under("bytes change places within a segment", 4, 1);
        t.x.spoil(1, 3 | 3 << 8);
        t.deliverAll().receiver(0, 1, Script.FAILED);
        Script u = under("a short segment stands high", 5, 1);
        u.x.spoil(1, 1 ^ 2);
        u.x.spoil(2, 5 ^ 4);
        u.deliverAll().receiver(0, 1, Script.DONE);
        u.due("byte 0", u.x.at(1, 1, 0), 2);
        u.due("byte 4", u.x.at(1, 1, 4), 4);
    }

    private static void rejected() {
        for (int kind = 1; kind <= 2; kind++) {
            Script s = new Script("rejected", 0).file(0, 0, 2).file(1, 3, 5);
            s.x.put(1, 3, 0, 2, 0, 0);
            s.x.suspend(1, 1, true);
            s.x.put(0, 0, 3, kind, 1, 3);
            s.ticks(3).deliverAll().receiver(0, 1, Script.REJECTED).sender(0, 1, kind == 1 ? Script.DONE : Script.REJECTED);
            s.size(1, 3, 5).request(0, 1, 0);
        }
        Script t = new Script("a wrong sum goes before the lock", 0).file(0, 0, 2).file(1, 3, 5);
        t.x.put(1, 3, 0, 2, 0, 0);
        t.x.suspend(1, 1, true);
        t.x.put(0, 0, 3, 1, 0, 0);
        t.ticks(3);
        t.x.spoil(1, 1);
        t.deliverAll().receiver(0, 1, Script.FAILED);
    }

    private static void replaces() {
        Script s = new Script("in place of one", 0).file(0, 0, 3).file(1, 1, 40);
        s.x.put(0, 0, 1, 2, 0, 0);
        s.ticks(3).deliverAll().size(1, 1, 3);
        s.due("append behind it", s.x.append(1, 1, 2, 0x0908), 5);
        s.due("byte 2", s.x.at(1, 1, 2), 3);
        s.due("byte 3", s.x.at(1, 1, 3), 8);
        s.size(0, 0, 3);
        Script t = under("no bytes", 0, 2).deliverAll().size(1, 1, 0);
        t.due("an empty one is there", t.x.create(1, 1), false);
    }

    private static void gaps() {
        Script s = under("gaps", 40, 2);
        loseBut(s, 2, 5, 7, 9, 11);
        for (int i = 0; i < 5; i++) {
            s.x.deliver(0);
        }
        s.kinds(Script.ACK, Script.NAK).detail(1, 8 + 3);
        s.x.deliver(1);
        s.x.deliver(0);
        int[] segments = {0, 2, 3, 5};
        s.ticks(1).kinds(Script.METADATA);
        for (int segment : segments) {
            s.loseAll().ticks(1);
            s.due("kind", s.x.unit(0, 0), Script.DATA);
            s.detail(0, segment);
        }
        s.loseAll().ticks(1);
        s.due("the fourth gap was not named", s.x.units(), 0);
        Script t = under("one gap of all", 64, 2);
        loseBut(t, 0, 17);
        t.x.deliver(0);
        t.x.deliver(0);
        t.kinds(Script.ACK, Script.NAK).detail(1, 1);
        Script u = under("the last segment", 61, 2);
        u.x.lose(16);
        for (int i = 0; i < 17; i++) {
            u.x.deliver(0);
        }
        u.kinds(Script.ACK, Script.NAK).detail(1, 1).receiver(0, 1, Script.OPEN);
        u.x.deliver(1);
        u.ticks(1).kinds(Script.ACK, Script.DATA).detail(1, 15).deliverAll().size(1, 1, 61);
        Script v = under("METADATA alone", 4, 2);
        v.x.lose(0);
        v.x.deliver(0);
        v.x.deliver(0);
        v.kinds(Script.ACK, Script.NAK).detail(1, 8);
    }

    private static void naksAreRepeated() {
        Script s = under("NAKs", 12, 2);
        loseBut(s, 0, 1, 2, 4);
        s.x.deliver(3);
        s.kinds(Script.METADATA, Script.DATA, Script.DATA, Script.ACK, Script.NAK).detail(4, 8 + 1);
        s.x.deliver(3);
        s.x.deliver(0);
        s.x.deliver(0);
        s.x.deliver(0);
        s.quietThen(3, Script.NAK).detail(0, 1);
        s.due("goes to", s.x.unit(0, 1), 0);
        s.quietThen(3, Script.NAK).receiver(0, 1, Script.OPEN);
        s.quietThen(3, Script.FINISHED).detail(0, Script.FAILED).receiver(0, 1, Script.ENDED);
        s.quietThen(3, Script.FINISHED).quietThen(2).receiver(0, 1, Script.ENDED);
        s.ticks(1).sender(0, 1, Script.FAILED).kinds(Script.FINISHED);
        s.quietThen(2).receiver(0, 1, Script.ENDED).ticks(1).kinds().receiver(0, 1, Script.FAILED);
    }

    private static void finishedIsRepeated() {
        Script s = under("FINISHED", 0, 2);
        s.x.deliver(0);
        s.x.deliver(0);
        s.kinds(Script.ACK, Script.FINISHED);
        s.x.deliver(0);
        s.quietThen(3, Script.FINISHED).quietThen(3, Script.FINISHED).detail(0, Script.DONE);
        s.quietThen(2).receiver(0, 1, Script.ENDED).ticks(1).kinds().receiver(0, 1, Script.DONE);
        s.sender(0, 1, Script.OPEN);
    }

    private static void classOneGivesUp() {
        Script s = under("class 1", 4, 1);
        s.x.copy(2);
        s.x.lose(1);
        s.x.deliver(0);
        s.ticks(3);
        s.x.deliver(0);
        s.ticks(5);
        s.x.deliver(0);
        s.kinds().ticks(2).receiver(0, 1, Script.OPEN).ticks(1).kinds().receiver(0, 1, Script.FAILED);
    }

    private static void silenceWithoutEnd() {
        for (int kind = 1; kind <= 2; kind++) {
            Script s = under("silence, class " + kind, 4, kind);
            s.x.suspend(0, 1, true);
            s.x.copy(2);
            s.x.deliver(1);
            s.ticks(15).receiver(0, 1, Script.OPEN).ticks(1).receiver(0, 1, Script.FAILED);
            s.kinds(Script.METADATA, Script.END, Script.END);
            s.x.deliver(0);
            s.x.deliver(0);
            s.receiver(0, 1, Script.FAILED);
            if (kind == 2) {
                s.kinds(Script.END, Script.ACK);
            } else {
                s.kinds(Script.END);
            }
        }
    }

    private static void everyUnitPutsSilenceOff() {
        Script s = under("again and again", 8, 1);
        s.x.copy(0);
        s.x.deliver(0);
        s.ticks(15);
        s.due("the copy of METADATA", s.x.deliver(3), true);
        s.ticks(15).receiver(0, 1, Script.OPEN);
        s.x.deliver(0);
        s.ticks(15).receiver(0, 1, Script.OPEN).ticks(1).receiver(0, 1, Script.FAILED);
    }

    private static void endIsAlwaysAcknowledged() {
        Script s = under("each END", 4, 2);
        s.x.copy(2);
        s.x.copy(2);
        s.x.copy(2);
        s.x.deliver(3);
        s.kinds(Script.METADATA, Script.DATA, Script.END, Script.END, Script.END, Script.ACK, Script.NAK);
        s.x.deliver(2);
        s.kinds(Script.METADATA, Script.DATA, Script.END, Script.END, Script.ACK, Script.NAK, Script.ACK);
        s.x.deliver(0);
        s.x.deliver(0);
        s.receiver(0, 1, Script.ENDED);
        s.x.deliver(0);
        s.kinds(Script.END, Script.ACK, Script.NAK, Script.ACK, Script.FINISHED, Script.ACK).detail(5, 3);
        s.x.deliver(4);
        s.kinds(Script.END, Script.ACK, Script.NAK, Script.ACK, Script.ACK, Script.ACK).detail(5, 4);
        s.x.deliver(5);
        s.receiver(0, 1, Script.DONE);
        s.x.deliver(0);
        s.kinds(Script.ACK, Script.NAK, Script.ACK, Script.ACK, Script.ACK).detail(4, 3);
        Script one = under("class 1", 4, 1);
        one.x.deliver(2);
        one.kinds(Script.METADATA, Script.DATA);
    }

    private static void cancelled() {
        Script s = new Script("cancelled", 0).file(0, 0, 4);
        s.x.put(0, 0, 1, 2, 2, 2);
        s.ticks(2);
        s.x.cancel(0, 1);
        s.ticks(1);
        s.x.deliver(2);
        s.kinds(Script.METADATA, Script.DATA, Script.ACK, Script.FINISHED).detail(3, Script.CANCELLED);
        s.receiver(0, 1, Script.ENDED);
        s.x.deliver(0);
        s.x.deliver(0);
        s.receiver(0, 1, Script.ENDED).deliverAll().receiver(0, 1, Script.CANCELLED).size(1, 1, -1).request(0, 1, 0);
    }

    private static void cancelledBehindEnd() {
        Script s = under("cancelled behind END", 4, 2);
        s.x.lose(1);
        s.x.deliver(1);
        s.kinds(Script.METADATA, Script.ACK, Script.NAK);
        s.x.cancel(0, 1);
        s.ticks(1);
        s.x.deliver(3);
        s.receiver(0, 1, Script.ENDED).deliverAll().receiver(0, 1, Script.CANCELLED).sender(0, 1, Script.CANCELLED);
        Script t = under("cancelled, and done before", 4, 2);
        t.x.copy(2);
        t.x.deliver(0);
        t.x.deliver(0);
        t.x.deliver(0);
        t.receiver(0, 1, Script.ENDED);
        t.x.cancel(0, 1);
        t.ticks(1).deliverAll().sender(0, 1, Script.DONE).receiver(0, 1, Script.DONE).size(1, 1, 4);
    }

    private static void endedNotesNothing() {
        Script s = under("ended", 4, 2);
        s.x.copy(0);
        s.x.copy(1);
        s.x.copy(2);
        s.x.deliver(0);
        s.x.deliver(0);
        s.x.deliver(0);
        s.kinds(Script.METADATA, Script.DATA, Script.END, Script.ACK, Script.FINISHED).receiver(0, 1, Script.ENDED);
        s.due("the user works on it", s.x.delete(1, 1), true);
        s.x.deliver(0);
        s.x.deliver(0);
        s.x.deliver(0);
        s.kinds(Script.ACK, Script.FINISHED, Script.ACK).size(1, 1, -1);
        s.quietThen(3, Script.END, Script.FINISHED);
    }

    /** Receivers of an entity come behind its senders, in the order in which they were opened. */
    private static void orderInATick() {
        Script s = new Script("order", 0).file(0, 0, 0).file(1, 0, 0);
        s.x.put(0, 0, 1, 2, 0, 0);
        s.x.put(0, 0, 2, 2, 0, 0);
        s.ticks(2);
        s.kinds(Script.METADATA, Script.METADATA, Script.END, Script.END);
        s.x.deliver(3);
        s.x.deliver(2);
        s.kinds(Script.METADATA, Script.METADATA, Script.ACK, Script.NAK, Script.ACK, Script.NAK);
        s.x.deliver(4);
        s.x.deliver(2);
        s.loseAll().ticks(3).kinds();
        s.x.put(1, 0, 0, 1, 0, 0);
        s.ticks(1).kinds(Script.METADATA, Script.NAK, Script.NAK);
        s.due("opened first", s.x.unit(1, 2), 2);
        s.due("opened next", s.x.unit(2, 2), 1);
    }

    /** The same number at both entities is two transactions. */
    private static void bothDirections() {
        Script s = new Script("both", 0).file(0, 0, 3).file(1, 1, 5);
        s.x.put(0, 0, 2, 2, 0, 0);
        s.x.put(1, 1, 3, 2, 0, 0);
        s.ticks(4).kinds(Script.METADATA, Script.METADATA, Script.DATA, Script.DATA, Script.END, Script.DATA, Script.END);
        s.x.deliver(0);
        s.receiver(0, 1, Script.OPEN).receiver(1, 1, 0);
        s.deliverAll().sender(0, 1, Script.DONE).sender(1, 1, Script.DONE);
        s.receiver(0, 1, Script.DONE).receiver(1, 1, Script.DONE).size(1, 2, 3).size(0, 3, 5);
    }
}
