/** Promises 8, 9, 10 and 17: cancel, suspend, tick and sender. T is 4 where nothing else is said. */
final class SenderTest {
    private SenderTest() {
    }

    public static void main(String[] args) {
        tickTellsTime();
        classOne();
        segments();
        endIsRepeated();
        endAcknowledgedThenSilence();
        unitsPutTheSilenceOff();
        nakGetsRepairs();
        repairsComeBeforeTimers();
        naksAddUp();
        nakOfACancelledOneIsDropped();
        finishedIsAnswered();
        cancelWrong();
        cancelClassOne();
        cancelClassTwo();
        cancelBehindEnd();
        cancelDropsRepairs();
        ackBeforeTheCancelledEnd();
        cancelledAndSilent();
        suspendWrong();
        suspendStopsTicks();
        suspendGetsAndAnswers();
        closedOnesStayClosed();
        failedAnswersFinished();
        manyTransactions();
        Check.end();
    }

    private static Script sending(String name, int size, int kind) {
        Script s = new Script(name, 0).file(0, 0, size);
        s.due("put", s.x.put(0, 0, 0, kind, 0, 0), 1);
        return s;
    }

    /** All is sent and lost; the last tick was that of END. */
    private static Script allSent(String name, int size) {
        return sending(name, size, 2).ticks(2 + (size + 3) / 4).loseAll();
    }

    /** END came behind a METADATA that was lost, so its receiver waits; the ACK was delivered, the NAK stands at 0. */
    private static Script acknowledged(String name, int size) {
        Script s = sending(name, size, 2).ticks(2 + (size + 3) / 4);
        while (s.x.units() > 1) {
            s.x.lose(0);
        }
        s.x.deliver(0);
        s.kinds(Script.ACK, Script.NAK);
        s.x.deliver(0);
        return s;
    }

    private static void tickTellsTime() {
        Script s = new Script("time", 3);
        for (int i = 1; i <= 500; i++) {
            s.due("tick()", s.x.tick(), i);
        }
    }

    private static void classOne() {
        Script s = sending("class 1", 5, 1);
        s.ticks(3).sender(0, 1, Script.OPEN).kinds(Script.METADATA, Script.DATA, Script.DATA);
        s.ticks(1).sender(0, 1, Script.DONE).kinds(Script.METADATA, Script.DATA, Script.DATA, Script.END);
        s.deliverAll().receiver(0, 1, Script.DONE).size(1, 0, 5).kinds();
        s.quietThen(40);
    }

    private static void segments() {
        int[][] rows = {{0, 0}, {1, 1}, {4, 1}, {5, 2}, {63, 16}, {64, 16}};
        for (int[] row : rows) {
            Script s = sending("size " + row[0], row[0], 1).ticks(40);
            s.due("units()", s.x.units(), row[1] + 2);
            for (int k = 1; k <= row[1]; k++) {
                s.due("kind", s.x.unit(k, 0), Script.DATA);
                s.detail(k, k - 1);
            }
            s.detail(row[1] + 1, row[0]);
            s.deliverAll().receiver(0, 1, Script.DONE).size(1, 0, row[0]);
            for (int i = 0; i < row[0]; i++) {
                s.due("byte " + i, s.x.at(1, 0, i), i + 1);
            }
        }
    }

    private static void endIsRepeated() {
        Script s = allSent("END is repeated", 3);
        s.quietThen(3, Script.END).detail(0, 3).quietThen(3, Script.END).sender(0, 1, Script.OPEN);
        s.quietThen(2).sender(0, 1, Script.OPEN);
        s.ticks(1).kinds().sender(0, 1, Script.FAILED).quietThen(30);
    }

    private static void endAcknowledgedThenSilence() {
        Script s = acknowledged("silence", 0);
        s.loseAll().ticks(15).sender(0, 1, Script.OPEN);
        s.ticks(1).sender(0, 1, Script.FAILED);
    }

    /** The silence is counted from the latest unit that it got or sent, whatever that was. */
    private static void unitsPutTheSilenceOff() {
        Script s = sending("got", 0, 2).ticks(2);
        s.x.lose(0);
        s.x.deliver(0);
        s.x.copy(0);
        s.x.deliver(0);
        s.x.lose(0);
        s.ticks(10);
        s.due("the copy of the ACK", s.x.unit(0, 0), Script.ACK);
        s.x.deliver(0);
        s.loseAll().ticks(15).sender(0, 1, Script.OPEN).ticks(1).sender(0, 1, Script.FAILED);
        Script t = acknowledged("sent", 0);
        t.ticks(3);
        t.x.deliver(0);
        t.ticks(1);
        t.due("METADATA again", t.x.unit(0, 0), Script.METADATA);
        t.loseAll().ticks(15).sender(0, 1, Script.OPEN).ticks(1).sender(0, 1, Script.FAILED);
    }

    private static void nakGetsRepairs() {
        Script s = sending("repairs", 24, 2).ticks(8);
        for (int k : new int[] {6, 5, 3, 2, 0}) {
            s.due("lose " + k, s.x.lose(k), true);
        }
        s.x.deliver(0);
        s.x.deliver(0);
        s.x.deliver(0);
        s.kinds(Script.ACK, Script.NAK).detail(1, 8 + 2);
        s.x.deliver(1);
        int[] due = {0, 1, 2, 4, 5};
        for (int i = 0; i < due.length; i++) {
            s.loseAll().ticks(1);
            s.due("kind " + i, s.x.unit(0, 0), i == 0 ? Script.METADATA : Script.DATA);
            s.detail(0, due[i]);
        }
        s.loseAll().ticks(1);
        s.due("END is due then, its time is over", s.x.unit(0, 0), Script.END);
    }

    /** Repairs take the tick in which END was due; END follows in the first tick without one. */
    private static void repairsComeBeforeTimers() {
        Script s = sending("repairs first", 8, 2).ticks(4);
        for (int i = 0; i < 3; i++) {
            s.x.lose(0);
        }
        s.x.deliver(0);
        s.x.lose(0);
        s.ticks(2);
        s.x.deliver(0);
        s.kinds();
        s.ticks(1).kinds(Script.METADATA);
        s.ticks(1);
        s.due("DATA, and the receiver asks again", s.x.units(), 3);
        s.due("kind", s.x.unit(1, 0), Script.DATA);
        s.due("kind", s.x.unit(2, 0), Script.NAK);
        s.loseAll().ticks(1).kinds(Script.DATA).detail(0, 1);
        s.loseAll().ticks(1).kinds(Script.END);
    }

    /** A later NAK that names less takes nothing back of what an earlier one asked for. */
    private static void naksAddUp() {
        Script s = sending("NAKs add up", 12, 2).ticks(5);
        s.x.deliver(4);
        s.kinds(Script.METADATA, Script.DATA, Script.DATA, Script.DATA, Script.ACK, Script.NAK).detail(5, 8 + 1);
        s.x.deliver(4);
        for (int i = 0; i < 3; i++) {
            s.x.deliver(0);
        }
        s.kinds(Script.DATA, Script.NAK).ticks(4).kinds(Script.DATA, Script.NAK, Script.NAK).detail(2, 1);
        s.x.lose(0);
        s.x.deliver(0);
        s.x.deliver(0);
        s.ticks(1).kinds(Script.METADATA);
        for (int segment = 0; segment < 3; segment++) {
            s.loseAll().ticks(1);
            s.due("kind", s.x.unit(0, 0), Script.DATA);
            s.detail(0, segment);
        }
    }

    private static void nakOfACancelledOneIsDropped() {
        Script s = sending("a late NAK of a cancelled one", 4, 2).ticks(3);
        s.x.lose(0);
        s.x.lose(0);
        s.x.deliver(0);
        s.kinds(Script.ACK, Script.NAK);
        s.x.cancel(0, 1);
        s.x.deliver(1);
        s.loseAll().ticks(1).kinds(Script.END).detail(0, -1);
        s.quietThen(2, Script.NAK);
        s.x.deliver(0);
        s.kinds().quietThen(0, Script.END).detail(0, -1);
    }

    private static void finishedIsAnswered() {
        Script s = sending("FINISHED", 0, 2).ticks(2);
        s.x.deliver(0);
        s.x.deliver(0);
        s.kinds(Script.ACK, Script.FINISHED);
        s.x.copy(1);
        s.x.deliver(1);
        s.sender(0, 1, Script.DONE).kinds(Script.ACK, Script.FINISHED, Script.ACK).detail(2, 4);
        s.x.deliver(1);
        s.sender(0, 1, Script.DONE).kinds(Script.ACK, Script.ACK, Script.ACK).detail(2, 4).receiver(0, 1, Script.ENDED);
        s.x.deliver(0);
        s.receiver(0, 1, Script.ENDED).kinds(Script.ACK, Script.ACK);
        s.x.deliver(0);
        s.receiver(0, 1, Script.DONE);
        s.x.deliver(0);
        s.receiver(0, 1, Script.DONE).kinds().quietThen(30);
    }

    private static void cancelWrong() {
        Script s = sending("cancel wrong", 1, 1);
        int[][] rows = {{0, 0}, {0, 2}, {1, 1}, {-1, 1}, {2, 1}, {0, -1}, {0, Integer.MIN_VALUE}, {0, Integer.MAX_VALUE}, {Integer.MAX_VALUE, 1}};
        for (int[] r : rows) {
            s.due("cancel(" + r[0] + ", " + r[1] + ")", s.x.cancel(r[0], r[1]), false);
            s.sender(r[0], r[1], 0).receiver(r[0], r[1], 0).request(r[0], r[1], 0);
        }
        s.ticks(3).sender(0, 1, Script.DONE);
        s.due("cancel a closed one", s.x.cancel(0, 1), false);
        s.sender(0, 1, Script.DONE);
    }

    private static void cancelClassOne() {
        Script s = sending("cancel class 1", 64, 1).ticks(2);
        s.due("cancel", s.x.cancel(0, 1), true);
        s.due("again", s.x.cancel(0, 1), false);
        s.sender(0, 1, Script.OPEN).ticks(1).kinds(Script.METADATA, Script.DATA, Script.END).detail(2, -1);
        s.sender(0, 1, Script.CANCELLED);
        s.due("cancel a closed one", s.x.cancel(0, 1), false);
        s.deliverAll().kinds().receiver(0, 1, Script.CANCELLED).size(1, 0, -1).quietThen(30);
        s.due("not locked", s.x.delete(0, 0), true);
    }

    private static void cancelClassTwo() {
        Script s = sending("cancel class 2", 64, 2).ticks(3);
        s.due("cancel", s.x.cancel(0, 1), true);
        s.ticks(1).sender(0, 1, Script.OPEN).detail(3, -1);
        s.quietThen(3, Script.END).detail(0, -1);
        s.deliverAll().sender(0, 1, Script.CANCELLED).receiver(0, 1, Script.CANCELLED);
        Script t = sending("cancel before the first tick", 8, 2);
        t.x.cancel(0, 1);
        t.ticks(1).kinds(Script.END).detail(0, -1).quietThen(3, Script.END).quietThen(3, Script.END);
        t.quietThen(2).sender(0, 1, Script.OPEN).ticks(1).kinds().sender(0, 1, Script.FAILED);
    }

    /** The cancelled END is the first one again, though END was sent three times. */
    private static void cancelBehindEnd() {
        Script s = allSent("cancel behind END", 3).quietThen(3, Script.END).quietThen(3, Script.END).loseAll().ticks(3);
        s.due("cancel", s.x.cancel(0, 1), true);
        s.ticks(1).kinds(Script.END).detail(0, -1);
        s.quietThen(3, Script.END).quietThen(3, Script.END).detail(0, -1).quietThen(2);
        s.sender(0, 1, Script.OPEN).ticks(1).kinds().sender(0, 1, Script.FAILED);
    }

    private static void cancelDropsRepairs() {
        Script s = acknowledged("cancel drops repairs", 8);
        s.x.deliver(0);
        s.kinds();
        s.x.cancel(0, 1);
        s.ticks(1).kinds(Script.END).detail(0, -1);
        s.quietThen(1);
        Script t = acknowledged("cancel makes END due again", 8);
        t.loseAll();
        t.x.cancel(0, 1);
        t.ticks(1).kinds(Script.END).detail(0, -1);
        t.loseAll().ticks(3).loseAll().ticks(1).kinds(Script.END).detail(0, -1);
        t.deliverAll().sender(0, 1, Script.CANCELLED);
    }

    /** An ACK of the END from before it was cancelled counts only when the cancelled one was sent. */
    private static void ackBeforeTheCancelledEnd() {
        Script s = endAndAck("an early ACK");
        s.x.cancel(0, 1);
        s.x.deliver(0);
        s.ticks(1).kinds(Script.END).detail(0, -1);
        s.loseAll().ticks(3).loseAll().ticks(1).kinds(Script.END);
        Script t = endAndAck("the same ACK, later");
        t.x.cancel(0, 1);
        t.ticks(1).kinds(Script.ACK, Script.END);
        t.x.deliver(0);
        t.loseAll().ticks(3).loseAll().ticks(12).sender(0, 1, Script.OPEN);
        t.ticks(1).sender(0, 1, Script.FAILED);
    }

    /** END came to a receiver that lacks METADATA; its ACK stands at 0, its NAK is lost. */
    private static Script endAndAck(String name) {
        Script s = sending(name, 0, 2).ticks(2);
        s.x.lose(0);
        s.x.deliver(0);
        s.x.lose(1);
        return s.kinds(Script.ACK);
    }

    /** A cancelled sender whose END was acknowledged waits 4 * T ticks as any other. */
    private static void cancelledAndSilent() {
        Script s = acknowledged("cancel, acknowledged before", 0);
        s.loseAll();
        s.x.cancel(0, 1);
        s.ticks(1);
        s.due("END", s.x.unit(0, 0), Script.END);
        s.x.deliver(0);
        s.kinds(Script.ACK, Script.FINISHED);
        s.x.deliver(0);
        s.loseAll().ticks(15).sender(0, 1, Script.OPEN).ticks(1).sender(0, 1, Script.FAILED);
    }

    private static void suspendWrong() {
        Script s = sending("suspend wrong", 1, 1);
        int[][] rows = {{0, 0}, {0, 2}, {1, 1}, {-1, 1}, {2, 1}, {0, Integer.MIN_VALUE}, {Integer.MAX_VALUE, 1}};
        for (int[] r : rows) {
            s.due("suspend", s.x.suspend(r[0], r[1], true), false);
            s.due("suspend", s.x.suspend(r[0], r[1], false), false);
        }
        s.due("go on, not suspended", s.x.suspend(0, 1, false), false);
        s.due("suspend", s.x.suspend(0, 1, true), true);
        s.due("again", s.x.suspend(0, 1, true), false);
        s.due("go on", s.x.suspend(0, 1, false), true);
        s.due("again", s.x.suspend(0, 1, false), false);
        s.ticks(3).sender(0, 1, Script.DONE);
        s.due("suspend a closed one", s.x.suspend(0, 1, true), false);
    }

    /** Suspended ticks count for no timer; a cancelled END waits, too. */
    private static void suspendStopsTicks() {
        Script s = sending("suspend", 4, 2).ticks(2).loseAll();
        s.x.suspend(0, 1, true);
        s.quietThen(20).sender(0, 1, Script.OPEN);
        s.x.suspend(0, 1, false);
        s.ticks(1).kinds(Script.END).loseAll().ticks(2).kinds();
        s.x.suspend(0, 1, true);
        s.quietThen(9);
        s.x.suspend(0, 1, false);
        s.quietThen(1, Script.END);
        s.x.suspend(0, 1, true);
        s.due("cancel a suspended one", s.x.cancel(0, 1), true);
        s.quietThen(9);
        s.x.suspend(0, 1, false);
        s.ticks(1).kinds(Script.END).detail(0, -1);
        Script t = acknowledged("suspended silence", 0);
        t.loseAll().ticks(15);
        t.x.suspend(0, 1, true);
        t.ticks(40).sender(0, 1, Script.OPEN);
        t.x.suspend(0, 1, false);
        t.sender(0, 1, Script.OPEN).ticks(1).sender(0, 1, Script.FAILED);
    }

    private static void suspendGetsAndAnswers() {
        Script s = sending("suspended, FINISHED", 0, 2).ticks(2);
        s.x.suspend(0, 1, true);
        s.deliverAll().sender(0, 1, Script.DONE).receiver(0, 1, Script.DONE);
        s.due("closed", s.x.suspend(0, 1, false), false);
        Script t = acknowledged("suspended, NAK", 4);
        t.x.suspend(0, 1, true);
        t.x.deliver(0);
        t.quietThen(2);
        t.x.suspend(0, 1, false);
        t.ticks(1);
        t.due("METADATA again", t.x.unit(0, 0), Script.METADATA);
    }

    private static void closedOnesStayClosed() {
        Script s = sending("late units", 4, 2).ticks(3);
        s.x.lose(0);
        s.x.lose(0);
        s.x.deliver(0);
        s.kinds(Script.ACK, Script.NAK);
        for (int i = 0; i < 12; i++) {
            s.ticks(1);
            while (s.x.units() > 2) {
                s.x.lose(2);
            }
        }
        s.sender(0, 1, Script.FAILED).kinds(Script.ACK, Script.NAK).deliverAll().sender(0, 1, Script.FAILED);
        s.ticks(1);
        for (int k = 0; k < s.x.units(); k++) {
            s.due("nothing of the sender", s.x.unit(k, 1), 0);
        }
    }

    /** FINISHED comes to a sender that has failed: it answers, and its result stays. */
    private static void failedAnswersFinished() {
        Script s = sending("failed", 0, 2).ticks(2);
        s.x.deliver(0);
        s.x.deliver(0);
        s.kinds(Script.ACK, Script.FINISHED);
        s.x.lose(0);
        for (int i = 0; i < 12; i++) {
            s.ticks(1);
            while (s.x.units() > 1) {
                s.x.lose(1);
            }
        }
        s.sender(0, 1, Script.FAILED).kinds(Script.FINISHED).detail(0, Script.DONE);
        s.x.deliver(0);
        s.kinds(Script.ACK).detail(0, 4).sender(0, 1, Script.FAILED);
    }

    /** The class keeps every transaction that 512 calls can open. */
    private static void manyTransactions() {
        Script s = new Script("many", 0).file(0, 0, 0);
        int number = 0;
        while (s.x.callsLeft() >= 5 + 4) {
            for (int i = 0; i < 3; i++) {
                number++;
                s.put(number, 0, 0, 0, 1);
            }
            s.ticks(2);
        }
        s.sender(0, 1, Script.DONE).sender(0, number, Script.DONE).sender(0, number + 1, 0);
    }
}
