/** Promises 10, 11 and 18 and the terms of receivers: a test for each sentence that names an edge, which stands above it. */
final class ReceiverEdgesTest {
    private static final int[] TIMERS = {0, 3, 7};

    private ReceiverEdgesTest() {
    }

    public static void main(String[] args) {
        openedByEachKindOfUnit();
        fourthIsDropped();
        fourthOpensWhenOneIsClosed();
        endedOnesCountAmongTheThree();
        threeAtEachEntity();
        closedOnesAreNotOpenedAgain();
        closedOnesAnswerEnd();
        firstSegmentCounts();
        everySegmentAndItsBytes();
        firstEndCounts();
        ackComesBeforeAllElse();
        cancelledEnds();
        cancelledBehindAnEnd();
        cancelledWhenItHasEnded();
        anEmptyFile();
        inPlaceOfOne();
        rejectedWhenDestIsLocked();
        checksumHasTheFirstByteHighest();
        checksumTakesMissingBytesAsZero();
        checksumWrapsAround();
        checksumDiffers();
        classOneIsClosedAtOnce();
        finishedAgainInTheTthTick();
        ackOfFinishedCloses();
        endedNotesNothing();
        nakWhenEndComesFirst();
        nakAgainInTheTthTick();
        threeNaksThenFailed();
        completeBehindTheLastNak();
        gapsAreRows();
        firstThreeGapsAreNamed();
        classOneWaits2T();
        withoutEndItWaits4T();
        latestUnitCounts();
        suspendedSenderDoesNotStopIt();
        orderOfATick();
        receiverAnswers();
        Check.end();
    }

    private static int t(int timer) {
        return 4 + (timer & 7);
    }

    /** All units of one file are under way: METADATA at 0, segment i at i + 1, then END. The sender is still or closed. */
    private static Script under(String name, int timer, int size, int kind) {
        Script s = new Script(name + ", timer " + timer, timer).file(0, 0, size).put(1, 0, 0, 1, kind).ticks(2 + (size + 3) / 4);
        if (kind == 2) {
            s.suspend(0, 1, true, true);
        }
        return s;
    }

    /** Three receivers are open at entity 1 (METADATA came), of senders that are closed; nothing is under way. */
    private static Script threeOpen(String name) {
        Script s = new Script(name, 0).file(0, 0, 4);
        for (int number = 1; number <= 3; number++) {
            s.put(number, 0, 0, 0, 1);
        }
        s.ticks(1).deliver(0, 0, 0).ticks(2).loseAll();
        return s.receiver(0, 1, Script.OPEN).receiver(0, 2, Script.OPEN).receiver(0, 3, Script.OPEN);
    }

    /** "A RECEIVER is opened by METADATA, DATA or END". */
    private static void openedByEachKindOfUnit() {
        for (int kind = 1; kind <= 2; kind++) {
            for (int k = 0; k < 3; k++) {
                Script s = under("opened by unit " + k, 0, 4, kind).receiver(0, 1, 0).deliver(k);
                s.receiver(0, 1, Script.OPEN).receiver(1, 1, 0).receiver(0, 2, 0);
            }
        }
    }

    /** "when fewer than three receivers are open there; otherwise the unit is dropped": also END of class 2, which is not answered. */
    private static void fourthIsDropped() {
        for (int kind = 1; kind <= 2; kind++) {
            Script s = threeOpen("a fourth of class " + kind).put(4, 0, 0, 0, kind).ticks(3);
            for (int i = 0; i < 3; i++) {
                s.deliver(0).receiver(0, 4, 0).due("units()", s.x.units(), 2 - i);
            }
            s.receiver(0, 1, Script.OPEN).receiver(0, 3, Script.OPEN);
        }
    }

    /** "fewer than three": two and one to come, as soon as one is closed. */
    private static void fourthOpensWhenOneIsClosed() {
        Script s = threeOpen("closed in a tick").put(4, 0, 0, 0, 1).ticks(1).kinds(Script.METADATA).copy(0);
        s.suspend(0, 4, true, true).ticks(12).receiver(0, 1, Script.OPEN).deliver(0).receiver(0, 4, 0);
        s.ticks(1).receiver(0, 1, Script.FAILED).deliver(0).receiver(0, 4, Script.OPEN);
        for (int closed = 1; closed <= 3; closed++) {
            Script t = new Script("closed by a unit: " + closed, 0).file(0, 0, 0);
            for (int number = 1; number <= 3; number++) {
                t.put(number, 0, 0, 0, 1);
            }
            t.ticks(2).deliver(0, 0, 0).put(4, 0, 0, 0, 1).put(5, 0, 0, 0, 1).ticks(1).copy(3).deliver(3).receiver(0, 4, 0);
            t.deliver(closed - 1).receiver(0, closed, Script.DONE).deliver(3).receiver(0, 4, Script.OPEN);
            t.kinds(Script.END, Script.END, Script.METADATA).deliver(2).receiver(0, 5, 0);
        }
    }

    /** "are open there": one that has ended is open until it is closed. */
    private static void endedOnesCountAmongTheThree() {
        Script s = new Script("ended", 0).file(0, 0, 0).file(0, 1, 4);
        for (int number = 1; number <= 3; number++) {
            s.put(number, 0, 0, number, 2);
        }
        s.ticks(2).deliver(0, 0, 0, 0, 0, 0).receiver(0, 3, Script.ENDED);
        s.deliver(1, 2, 3).sender(0, 3, Script.DONE).put(4, 0, 1, 0, 1).ticks(2);
        s.kinds(Script.ACK, Script.ACK, Script.ACK, Script.ACK, Script.ACK, Script.ACK, Script.METADATA, Script.DATA);
        s.deliver(6).receiver(0, 4, 0).deliver(3).receiver(0, 1, Script.DONE).deliver(5).receiver(0, 4, Script.OPEN);
    }

    /** "there": three at each entity. */
    private static void threeAtEachEntity() {
        Script s = threeOpen("at each").file(1, 5, 0).put(1, 1, 5, 0, 1).put(2, 1, 5, 0, 1).put(3, 1, 5, 0, 1);
        s.ticks(1).deliver(0, 0, 0).receiver(1, 1, Script.OPEN).receiver(1, 3, Script.OPEN).ticks(1).loseAll();
        s.put(4, 1, 5, 0, 1).ticks(1).deliver(0).receiver(1, 4, 0);
    }

    /** "of a transaction that its entity never had one for"; "as is all that comes for a receiver that is closed". */
    private static void closedOnesAreNotOpenedAgain() {
        for (int k = 0; k < 2; k++) {
            for (int kind = 1; kind <= 2; kind++) {
                Script s = under("unit " + k + " of class " + kind, 0, 4, kind).copy(k).deliver(k).ticks(16);
                s.receiver(0, 1, Script.FAILED).deliver(2).kinds(k == 0 ? Script.DATA : Script.METADATA, Script.END);
                s.receiver(0, 1, Script.FAILED).deliver(0).receiver(0, 1, Script.FAILED).size(1, 1, -1);
                s.ticks(20).kinds(Script.END).receiver(0, 1, Script.FAILED);
            }
        }
        Script done = under("DONE", 0, 0, 1).copy(0, 1).deliver(0, 0).receiver(0, 1, Script.DONE);
        done.due("delete", done.x.delete(1, 1), true);
        done.deliver(0, 0).size(1, 1, -1).receiver(0, 1, Script.DONE).kinds();
    }

    /** "but: END of class 2 is answered with an ACK of it also by a closed one." */
    private static void closedOnesAnswerEnd() {
        Script s = under("class 2", 0, 4, 2).copy(2).deliver(0).ticks(16).receiver(0, 1, Script.FAILED).deliver(1);
        s.kinds(Script.DATA, Script.END, Script.ACK).detail(2, 3).due("goes to", s.x.unit(2, 1), 0);
        s.deliver(1).kinds(Script.DATA, Script.ACK, Script.ACK).receiver(0, 1, Script.FAILED);
        Script one = under("class 1", 0, 4, 1).deliver(0).ticks(16).receiver(0, 1, Script.FAILED).deliver(1).kinds(Script.DATA);
        one.receiver(0, 1, Script.FAILED);
        Script t = under("a cancelled END", 0, 4, 2).loseAll().cancel(0, 1, true).suspend(0, 1, false, true);
        t.ticks(1).copy(0).deliver(0).lose(2).kinds(Script.END, Script.ACK).suspend(0, 1, true, true).ticks(12);
        t.receiver(0, 1, Script.CANCELLED).loseBehind(2).deliver(0).kinds(Script.ACK, Script.ACK).detail(1, 3);
        t.receiver(0, 1, Script.CANCELLED);
    }

    /** "each segment (the first one counts": a spoiled one that comes first fails, one that comes next does no harm. */
    private static void firstSegmentCounts() {
        for (int segment : new int[] {0, 15}) {
            Script s = under("spoiled first", 0, 64, 1).copy(segment + 1).spoil(segment + 1, 1).deliverAll();
            s.receiver(0, 1, Script.FAILED);
            Script t = under("spoiled copy first", 0, 64, 1).copy(segment + 1).spoil(18, 1).deliver(18);
            t.deliverAll().receiver(0, 1, Script.FAILED);
            Script u = under("spoiled behind", 0, 64, 1).copy(segment + 1).spoil(18, 1).deliver(segment + 1).deliver(17);
            u.deliverAll().receiver(0, 1, Script.DONE).size(1, 1, 64);
            u.due("first byte of it", u.x.at(1, 1, 4 * segment), 4 * segment + 1);
        }
    }

    /** "a segment is 0 .. 15 and its bytes 1 .. 4)": each byte comes to its place, from the last segment to the first. */
    private static void everySegmentAndItsBytes() {
        for (int size = 61; size <= 64; size++) {
            Script s = under("size " + size, 0, size, 2);
            for (int k = 17; k >= 0; k--) {
                s.receiver(0, 1, k == 17 ? 0 : Script.OPEN).deliver(k);
            }
            s.receiver(0, 1, Script.ENDED).size(1, 1, size);
            for (int i = 0; i < size; i++) {
                s.due("at " + i, s.x.at(1, 1, i), i + 1);
            }
        }
    }

    /** "END (the first one counts": the next is answered, but sends no NAK and begins no time. */
    private static void firstEndCounts() {
        Script s = under("class 2", 0, 4, 2).copy(2).deliver(2).lose(4, 3).kinds(Script.METADATA, Script.DATA, Script.END);
        s.ticks(3).deliver(2).kinds(Script.METADATA, Script.DATA, Script.ACK).ticks(1);
        s.kinds(Script.METADATA, Script.DATA, Script.ACK, Script.NAK);
        Script t = under("class 1", 0, 4, 1).copy(2).deliver(2).ticks(7).deliver(2).kinds(Script.METADATA, Script.DATA);
        t.receiver(0, 1, Script.OPEN).ticks(1).receiver(0, 1, Script.FAILED).kinds(Script.METADATA, Script.DATA);
    }

    /** "each one of class 2 is answered with an ACK at once, before all that follows)". */
    private static void ackComesBeforeAllElse() {
        under("then NAK", 0, 4, 2).deliver(2).kinds(Script.METADATA, Script.DATA, Script.ACK, Script.NAK).detail(2, 3);
        under("then FINISHED", 0, 4, 2).deliver(0, 0, 0).kinds(Script.ACK, Script.FINISHED).detail(0, 3);
        under("then nothing", 0, 4, 1).deliver(2).kinds(Script.METADATA, Script.DATA);
        Script s = under("of a cancelled one", 0, 4, 2).cancel(0, 1, true).suspend(0, 1, false, true).ticks(1).deliver(3);
        s.kinds(Script.METADATA, Script.DATA, Script.END, Script.ACK, Script.FINISHED).detail(3, 3).detail(4, Script.CANCELLED);
    }

    /** "When an END says cancelled, it ENDS, CANCELLED.": as the first unit, or behind all segments. */
    private static void cancelledEnds() {
        for (int kind = 1; kind <= 2; kind++) {
            Script s = new Script("the first unit, class " + kind, 0).file(0, 0, 4).put(1, 0, 0, 1, kind);
            s.cancel(0, 1, true).ticks(1).kinds(Script.END).deliver(0);
            s.receiver(0, 1, kind == 1 ? Script.CANCELLED : Script.ENDED).size(1, 1, -1);
            Script t = new Script("behind all, class " + kind, 0).file(0, 0, 4).file(1, 1, 9).put(1, 0, 0, 1, kind);
            t.ticks(2).cancel(0, 1, true).ticks(1).deliver(0, 0, 0);
            t.receiver(0, 1, kind == 1 ? Script.CANCELLED : Script.ENDED).size(1, 1, 9);
            if (kind == 1) {
                t.kinds();
            } else {
                t.kinds(Script.ACK, Script.FINISHED).detail(1, Script.CANCELLED).deliverAll().receiver(0, 1, Script.CANCELLED);
            }
        }
    }

    /** "and the first one that is cancelled": it counts behind an END that waits. */
    private static void cancelledBehindAnEnd() {
        Script s = under("behind END", 0, 4, 2).deliver(2).cancel(0, 1, true).suspend(0, 1, false, true).ticks(1).deliver(4);
        s.kinds(Script.METADATA, Script.DATA, Script.ACK, Script.NAK, Script.ACK, Script.FINISHED).detail(5, Script.CANCELLED);
        s.receiver(0, 1, Script.ENDED).deliver(0, 0).receiver(0, 1, Script.ENDED).size(1, 1, -1);
        s.deliverAll().receiver(0, 1, Script.CANCELLED).sender(0, 1, Script.CANCELLED);
    }

    /** "It notes nothing more when it has ended.": nor that it is cancelled. */
    private static void cancelledWhenItHasEnded() {
        Script s = under("done, then cancelled", 0, 4, 2).deliver(0, 0, 0).cancel(0, 1, true).suspend(0, 1, false, true);
        s.ticks(1).kinds(Script.ACK, Script.FINISHED, Script.END).detail(2, -1).deliver(2).kinds(Script.ACK, Script.FINISHED, Script.ACK);
        s.receiver(0, 1, Script.ENDED).deliverAll().receiver(0, 1, Script.DONE).sender(0, 1, Script.DONE).size(1, 1, 4);
    }

    /** "all segments that a file of that size has": an empty one has none. */
    private static void anEmptyFile() {
        for (int kind = 1; kind <= 2; kind++) {
            Script s = under("empty", 0, 0, kind).deliver(0).receiver(0, 1, Script.OPEN).size(1, 1, -1).deliver(0);
            s.receiver(0, 1, kind == 1 ? Script.DONE : Script.ENDED).size(1, 1, 0);
            Script t = under("END first", 0, 0, kind).deliver(1).receiver(0, 1, Script.OPEN).size(1, 1, -1).deliver(0);
            t.receiver(0, 1, kind == 1 ? Script.DONE : Script.ENDED).size(1, 1, 0);
        }
    }

    /** "the file is put into the store as DEST (in place of one)": a longer, a shorter, an empty, a full one, or none. */
    private static void inPlaceOfOne() {
        for (int size : new int[] {0, 3, 64}) {
            for (int old : new int[] {-1, 0, 5, 64}) {
                Script s = new Script(size + " in place of " + old, 0).file(0, 0, size);
                if (old >= 0) {
                    s.file(1, 5, old);
                }
                s.put(1, 0, 0, 5, 1).ticks(2 + (size + 3) / 4).deliverAll().receiver(0, 1, Script.DONE).size(1, 5, size);
                s.refused("behind the last", IndexOutOfBoundsException.class, () -> s.x.at(1, 5, size));
                s.size(0, 0, size).size(0, 5, -1).size(1, 0, -1);
            }
        }
    }

    /** "but REJECTED when DEST is locked": by any open sender there, until it is closed; DEST stays as it is. */
    private static void rejectedWhenDestIsLocked() {
        for (int kind = 1; kind <= 2; kind++) {
            Script s = new Script("locked, class " + kind, 0).file(0, 0, 2).file(1, 3, 1).put(1, 1, 3, 0, 1).ticks(2);
            s.suspend(1, 1, true, true).loseAll().put(1, 0, 0, 3, kind).ticks(3).deliver(0, 0, 0);
            s.receiver(0, 1, kind == 1 ? Script.REJECTED : Script.ENDED).size(1, 3, 1);
            if (kind == 2) {
                s.kinds(Script.ACK, Script.FINISHED).detail(1, Script.REJECTED).deliverAll().receiver(0, 1, Script.REJECTED);
            } else {
                s.kinds();
            }
        }
        Script t = new Script("closed before", 0).file(0, 0, 2).file(1, 3, 1).put(1, 1, 3, 0, 1).put(1, 0, 0, 3, 1).ticks(3);
        t.sender(1, 1, Script.DONE).deliver(0, 1, 2).receiver(0, 1, Script.DONE).bytes(1, 3, 1, 2);
        Script u = new Script("its own file is locked, not DEST", 0).file(0, 3, 2).file(1, 2, 1).put(1, 1, 2, 0, 1);
        u.suspend(1, 1, true, true).put(1, 0, 3, 3, 2).ticks(3).deliver(0, 0, 0).receiver(0, 1, Script.ENDED).size(1, 3, 2);
        u.deliverAll().receiver(0, 1, Script.DONE);
    }

    /** Segments of the bytes told, sent with class 1 and spoiled: whether the checksum is the same. */
    private static void spoiled(String name, int size, int[][] spoils, int due) {
        Script s = under(name, 0, size, 1);
        for (int[] spoil : spoils) {
            s.spoil(spoil[0] + 1, spoil[1]);
        }
        s.deliverAll().receiver(0, 1, due);
    }

    /** "its segments as numbers of four bytes (the first byte the highest": bytes that change places between segments add up to the same, within one they do not. */
    private static void checksumHasTheFirstByteHighest() {
        for (int place = 0; place < 4; place++) {
            int differs = (1 + place ^ 5 + place) << (8 * place);
            spoiled("place " + place + " changes", 8, new int[][] {{0, differs}, {1, differs}}, Script.DONE);
        }
        spoiled("first and second change", 8, new int[][] {{0, (1 ^ 2) * 0x101}}, Script.FAILED);
        spoiled("first and last change", 8, new int[][] {{0, (1 ^ 4) * 0x1000001}}, Script.FAILED);
        Script s = new Script("a carry from the last byte to the third", 0).file(0, 0, 0);
        s.due("append", s.x.append(0, 0, 8, 0x01_00_00_00_ff_00_00_00L), 8);
        s.put(1, 0, 0, 1, 1).ticks(4).spoil(1, 0xff010000).spoil(2, 0x01000000).deliverAll();
        s.receiver(0, 1, Script.DONE).bytes(1, 1, 0, 0, 1, 0, 0, 0, 0, 0);
        Script t = new Script("a carry the wrong way", 0).file(0, 0, 0);
        t.due("append", t.x.append(0, 0, 8, 0x00_00_00_01_00_00_00_ffL), 8);
        t.put(1, 0, 0, 1, 1).ticks(4).spoil(1, 0x000001ff).spoil(2, 0x00000001).deliverAll().receiver(0, 1, Script.FAILED);
    }

    /** "missing ones 0)": the first byte of a short segment is the highest, too. */
    private static void checksumTakesMissingBytesAsZero() {
        spoiled("first and fifth byte change", 5, new int[][] {{0, 1 ^ 5}, {1, 1 ^ 5}}, Script.DONE);
        spoiled("fourth and fifth byte change", 5, new int[][] {{0, (4 ^ 5) << 24}, {1, 4 ^ 5}}, Script.FAILED);
        spoiled("third and seventh byte change", 7, new int[][] {{0, (3 ^ 7) << 16}, {1, (3 ^ 7) << 16}}, Script.DONE);
    }

    /** "added up, modulo 2^32." */
    private static void checksumWrapsAround() {
        spoiled("2^31 twice", 8, new int[][] {{0, 0x80}, {1, 0x80}}, Script.DONE);
        spoiled("2^31 once", 8, new int[][] {{0, 0x80}}, Script.FAILED);
        spoiled("2^30 twice", 8, new int[][] {{0, 0x40}, {1, 0x40}}, Script.FAILED);
        spoiled("2^30 four times", 16, new int[][] {{0, 0x40}, {1, 0x40}, {2, 0x40}, {3, 0x40}}, Script.DONE);
        Script s = new Script("all bytes are 255", 0).file(0, 0, 0);
        for (int size = 8; size <= 64; size += 8) {
            s.due("append", s.x.append(0, 0, 8, -1), size);
        }
        s.put(1, 0, 0, 1, 2).ticks(18).deliverAll().receiver(0, 1, Script.DONE).sender(0, 1, Script.DONE).size(1, 1, 64);
    }

    /** "When the checksum differs it ENDS, FAILED.": and DEST stays as it is, locked or not. */
    private static void checksumDiffers() {
        for (int kind = 1; kind <= 2; kind++) {
            Script s = new Script("differs", 0).file(0, 0, 1).file(1, 1, 3).put(1, 0, 0, 1, kind).ticks(3).spoil(1, 0x80);
            s.deliver(0, 0, 0).receiver(0, 1, kind == 1 ? Script.FAILED : Script.ENDED).bytes(1, 1, 1, 2, 3);
            s.deliverAll().receiver(0, 1, Script.FAILED).sender(0, 1, kind == 1 ? Script.DONE : Script.FAILED);
        }
    }

    /** "With class 1, ENDING is being closed with that result.": nothing is sent. */
    private static void classOneIsClosedAtOnce() {
        under("class 1", 0, 4, 1).deliver(0, 0).receiver(0, 1, Script.OPEN).deliver(0).receiver(0, 1, Script.DONE).quietThen(30);
    }

    /** "in each T-th tick after it sent FINISHED it sends it again, but when three were sent it is closed (with that result)." */
    private static void finishedAgainInTheTthTick() {
        for (int timer : TIMERS) {
            Script s = under("FINISHED", timer, 0, 2).ticks(2).deliver(0, 0).kinds(Script.ACK, Script.FINISHED);
            s.quietThen(t(timer) - 1, Script.FINISHED).detail(0, Script.DONE);
            s.quietThen(t(timer) - 1, Script.FINISHED).detail(0, Script.DONE);
            s.quietThen(t(timer) - 2).receiver(0, 1, Script.ENDED);
            s.ticks(1).kinds().receiver(0, 1, Script.DONE).quietThen(5 * t(timer)).receiver(0, 1, Script.DONE);
        }
    }

    /** "and is closed when an ACK of FINISHED comes": in the last tick, too; an ACK that comes later is dropped. */
    private static void ackOfFinishedCloses() {
        Script s = under("the last tick", 0, 0, 2).deliver(0, 0).lose(0).ticks(8).kinds(Script.FINISHED, Script.FINISHED, Script.FINISHED);
        s.ticks(3).receiver(0, 1, Script.ENDED).deliver(2).kinds(Script.FINISHED, Script.FINISHED, Script.ACK);
        s.deliver(2).receiver(0, 1, Script.DONE).ticks(1).kinds(Script.FINISHED, Script.FINISHED);
        Script t = under("too late", 0, 0, 2).deliver(0, 0).lose(0).deliver(0).kinds(Script.ACK).ticks(12);
        t.receiver(0, 1, Script.DONE).deliver(0).receiver(0, 1, Script.DONE);
        Script u = under("a second ACK", 0, 0, 2).deliver(0, 0).lose(0).deliver(0).copy(0).deliver(0);
        u.receiver(0, 1, Script.DONE).deliver(0).kinds().receiver(0, 1, Script.DONE);
    }

    /** "It notes nothing more when it has ended.": a good segment does not mend it, METADATA and END do not end it again. */
    private static void endedNotesNothing() {
        Script s = under("FAILED", 0, 4, 2).copy(0, 1, 2).spoil(1, 1).deliver(0, 0, 0).receiver(0, 1, Script.ENDED);
        s.kinds(Script.METADATA, Script.DATA, Script.END, Script.ACK, Script.FINISHED).detail(4, Script.FAILED).deliver(0, 0, 0);
        s.kinds(Script.ACK, Script.FINISHED, Script.ACK).receiver(0, 1, Script.ENDED).size(1, 1, -1);
        s.quietThen(3, Script.FINISHED).detail(0, Script.FAILED);
        Script t = under("DONE", 0, 0, 2).copy(0, 1).deliver(0, 0).size(1, 1, 0);
        t.due("delete", t.x.delete(1, 1), true);
        t.deliver(0, 0).size(1, 1, -1).kinds(Script.ACK, Script.FINISHED, Script.ACK);
    }

    /** "with class 2 it sends a NAK when END comes first": what comes behind it sends none. */
    private static void nakWhenEndComesFirst() {
        Script s = under("NAK", 0, 8, 2).copy(0).deliver(1).kinds(Script.METADATA, Script.DATA, Script.END, Script.METADATA);
        s.deliver(2).kinds(Script.METADATA, Script.DATA, Script.METADATA, Script.ACK, Script.NAK).detail(4, 8 + 1);
        s.deliver(0, 1).kinds(Script.DATA, Script.ACK, Script.NAK).receiver(0, 1, Script.OPEN);
        s.deliver(0).kinds(Script.ACK, Script.NAK, Script.FINISHED).receiver(0, 1, Script.ENDED);
    }

    /** "and in each T-th tick after a NAK again": with what is missing then. */
    private static void nakAgainInTheTthTick() {
        for (int timer : TIMERS) {
            Script s = under("NAK again", timer, 12, 2).deliver(4).detail(5, 8 + 1).lose(5, 4);
            s.deliver(0).kinds(Script.DATA, Script.DATA, Script.DATA).lose(2, 0).detail(0, 1);
            s.kinds(Script.DATA).ticks(t(timer) - 1).kinds(Script.DATA).ticks(1).kinds(Script.DATA, Script.NAK).detail(1, 1);
            s.lose(1).deliver(0).ticks(t(timer) - 1).kinds().ticks(1).kinds(Script.NAK).detail(0, 2);
        }
    }

    /** "but when three were sent it ENDS, FAILED." */
    private static void threeNaksThenFailed() {
        for (int timer : TIMERS) {
            Script s = under("three NAKs", timer, 4, 2).deliver(2).kinds(Script.METADATA, Script.DATA, Script.ACK, Script.NAK);
            s.quietThen(t(timer) - 1, Script.NAK).quietThen(t(timer) - 1, Script.NAK).quietThen(t(timer) - 2);
            s.receiver(0, 1, Script.OPEN).ticks(1).kinds(Script.FINISHED).detail(0, Script.FAILED).receiver(0, 1, Script.ENDED);
            s.quietThen(t(timer) - 1, Script.FINISHED).quietThen(t(timer) - 1, Script.FINISHED).quietThen(t(timer) - 2);
            s.receiver(0, 1, Script.ENDED).ticks(1).kinds().receiver(0, 1, Script.FAILED);
        }
    }

    /** The same: what is missing may come until then, and FINISHED is sent three times from there. */
    private static void completeBehindTheLastNak() {
        Script s = under("the last tick", 0, 0, 2).deliver(1).lose(2, 1).ticks(8).lose(2, 1).kinds(Script.METADATA).ticks(3);
        s.receiver(0, 1, Script.OPEN).deliver(0).kinds(Script.FINISHED).detail(0, Script.DONE).receiver(0, 1, Script.ENDED);
        s.quietThen(3, Script.FINISHED).quietThen(3, Script.FINISHED).quietThen(2).receiver(0, 1, Script.ENDED);
        s.ticks(1).kinds().receiver(0, 1, Script.DONE);
    }

    /** A file with so many segments of which these come, with METADATA or not: what its NAK tells. */
    private static Script nak(int segments, boolean metadata, int due, int... come) {
        Script s = under("NAK of " + segments, 0, 4 * segments, 2);
        for (int i = 0; i < come.length; i++) {
            s.deliver(come[i] + 1 - i);
        }
        int end = segments + 1 - come.length;
        if (metadata) {
            s.deliver(0);
            end--;
        }
        s.deliver(end).due("ACK", s.x.unit(end, 0), Script.ACK);
        s.due("NAK", s.x.unit(end + 1, 0), Script.NAK);
        return s.detail(end + 1, due);
    }

    /** "GAPS are the rows of segments one behind the other that are missing, of those that a file of that size has". */
    private static void gapsAreRows() {
        nak(0, false, 8);
        nak(1, true, 1);
        nak(1, false, 8 + 1);
        nak(1, false, 8, 0);
        nak(16, true, 1);
        nak(16, false, 8 + 1);
        nak(16, true, 1, 0);
        nak(16, true, 1, 15);
        nak(16, true, 2, 1);
        nak(16, true, 2, 14);
        nak(16, true, 1, 0, 15);
        nak(4, false, 8 + 2, 0, 2);
        nak(16, true, 1, 0, 1, 2, 3, 4, 5, 6, 7, 8, 9, 10, 11, 12, 13, 14);
    }

    /** "the first three are named.": a fourth and more are not told, and not sent again. */
    private static void firstThreeGapsAreNamed() {
        nak(5, true, 3, 1, 3);
        nak(7, true, 3, 1, 3, 5);
        nak(16, false, 8 + 3, 1, 3, 5, 7, 9, 11, 13, 15);
        Script s = nak(16, true, 3, 2, 5, 9, 13).deliver(13).loseAll().suspend(0, 1, false, true);
        for (int segment : new int[] {0, 1, 3, 4, 6, 7, 8}) {
            s.ticks(1).due("kind", s.x.unit(0, 0), Script.DATA);
            s.detail(0, segment).loseAll();
        }
        s.ticks(1).due("END, no fourth gap", s.x.unit(0, 0), Script.END);
    }

    /** "With class 1 it ENDS, FAILED, in the 2 * T-th tick after END.": and sends nothing. */
    private static void classOneWaits2T() {
        for (int timer : TIMERS) {
            Script s = under("class 1", timer, 4, 1).deliver(2).ticks(2 * t(timer) - 1).receiver(0, 1, Script.OPEN);
            s.kinds(Script.METADATA, Script.DATA).ticks(1).receiver(0, 1, Script.FAILED).kinds(Script.METADATA, Script.DATA);
            s.deliver(0, 0).receiver(0, 1, Script.FAILED).size(1, 1, -1);
            Script u = under("units behind END", timer, 8, 1).copy(1).deliver(3).ticks(2 * t(timer) - 1).deliver(1, 1);
            u.receiver(0, 1, Script.OPEN).ticks(1).receiver(0, 1, Script.FAILED);
            Script v = under("complete in the last tick", timer, 4, 1).deliver(2).ticks(2 * t(timer) - 1).deliver(0, 0);
            v.receiver(0, 1, Script.DONE).size(1, 1, 4);
        }
    }

    /** "When END is not there, in the 4 * T-th tick behind the latest unit that it got it is closed, FAILED (with any class, nothing is sent)." */
    private static void withoutEndItWaits4T() {
        for (int timer : TIMERS) {
            for (int kind = 1; kind <= 2; kind++) {
                Script s = under("no END, class " + kind, timer, 4, kind).lose(2).deliver(kind - 1).lose(0);
                s.ticks(4 * t(timer) - 1).kinds().receiver(0, 1, Script.OPEN);
                s.ticks(1).kinds().receiver(0, 1, Script.FAILED).quietThen(10).receiver(0, 1, Script.FAILED);
            }
        }
    }

    /** "the latest unit that it got": any, also one that it has; "What comes between ticks counts for the latest tick." */
    private static void latestUnitCounts() {
        for (int kind = 1; kind <= 2; kind++) {
            Script s = under("latest, class " + kind, 0, 4, kind).lose(2).copy(0, 1).deliver(0).ticks(15).deliver(0).ticks(15);
            s.kinds(Script.METADATA, Script.DATA).deliver(0).ticks(15).deliver(0).ticks(15).receiver(0, 1, Script.OPEN);
            s.ticks(1).receiver(0, 1, Script.FAILED);
            Script t = under("END in the last tick, class " + kind, 0, 0, kind).deliver(0).ticks(15).deliver(0);
            t.receiver(0, 1, kind == 1 ? Script.DONE : Script.ENDED).ticks(1).receiver(0, 1, kind == 1 ? Script.DONE : Script.ENDED);
        }
    }

    /** "For a sender ticks in which it is suspended do not count.": for its receiver they do. */
    private static void suspendedSenderDoesNotStopIt() {
        Script s = new Script("suspended", 0).file(0, 0, 4).put(1, 0, 0, 1, 2).ticks(1).suspend(0, 1, true, true).deliver(0);
        s.ticks(15).receiver(0, 1, Script.OPEN).ticks(1).receiver(0, 1, Script.FAILED).sender(0, 1, Script.OPEN);
        Script t = under("suspended behind END", 0, 4, 2).deliver(2).quietThen(3, Script.NAK);
        t.sender(0, 1, Script.OPEN);
    }

    /** "for entity 0, then 1: its open senders in order of their numbers, then its open receivers in the order in which they were opened." */
    private static void orderOfATick() {
        Script s = new Script("order", 0).file(0, 0, 0).file(1, 0, 0);
        s.put(1, 0, 0, 1, 2).put(2, 0, 0, 2, 2).put(1, 1, 0, 1, 2).put(2, 1, 0, 2, 2).ticks(2);
        s.due("units()", s.x.units(), 8);
        // Of METADATA at 0 .. 3 none comes; the ENDs come from the last to the first.
        s.deliver(7, 6, 5, 4).suspend(0, 1, true, true).suspend(0, 2, true, true).suspend(1, 1, true, true).suspend(1, 2, true, true);
        s.loseAll().put(3, 0, 0, 3, 1).put(3, 1, 0, 3, 1).ticks(2).loseAll().put(4, 1, 0, 3, 1).put(4, 0, 0, 3, 1).ticks(1);
        s.kinds(Script.METADATA, Script.METADATA).loseAll().suspend(0, 1, false, true).cancel(0, 1, true).ticks(1);
        int[][] due = {
            {Script.END, 1, 1}, {Script.END, 1, 4}, {Script.NAK, 1, 2}, {Script.NAK, 1, 1},
            {Script.END, 0, 4}, {Script.NAK, 0, 2}, {Script.NAK, 0, 1},
        };
        s.due("units()", s.x.units(), due.length);
        for (int k = 0; k < due.length; k++) {
            for (int w = 0; w < 3; w++) {
                s.due("unit(" + k + ", " + w + ")", s.x.unit(k, w), due[k][w]);
            }
        }
    }

    /** "The receiver of a transaction that this entity sends: 0 there is none, 5 it is open, 6 it has ended and is open, else its result." */
    private static void receiverAnswers() {
        Script s = under("receiver", 0, 0, 2).receiver(0, 1, 0).deliver(0).receiver(0, 1, Script.OPEN).deliver(0);
        int[][] none = {
            {1, 1}, {0, 0}, {0, 2}, {0, -1}, {-1, 1}, {2, 1}, {0, Integer.MIN_VALUE}, {0, Integer.MAX_VALUE},
            {Integer.MIN_VALUE, 1}, {Integer.MAX_VALUE, 1},
        };
        for (int[] no : none) {
            s.receiver(no[0], no[1], 0).request(no[0], no[1], 0);
        }
        s.receiver(0, 1, Script.ENDED).deliverAll().receiver(0, 1, Script.DONE);
        Script t = new Script("of entity 1", 0).file(1, 0, 0).put(1, 1, 0, 0, 1).ticks(1).deliver(0);
        t.receiver(1, 1, Script.OPEN).receiver(0, 1, 0);
    }
}
