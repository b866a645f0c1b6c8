/** Promises 8, 9, 10 and 17 and the terms of senders: a test for each sentence that names an edge, which stands above it. */
final class SenderEdgesTest {
    private static final int[] TIMERS = {0, 3, 7};
    private static final int[][] NO_SENDERS = {
        {0, 0}, {0, -1}, {0, 2}, {1, 1}, {1, 0}, {-1, 1}, {2, 1},
        {0, Integer.MIN_VALUE}, {0, Integer.MAX_VALUE}, {Integer.MIN_VALUE, 1}, {Integer.MAX_VALUE, 1},
    };

    private SenderEdgesTest() {
    }

    public static void main(String[] args) {
        timeIsFromOne();
        whatAFileIsSentAs();
        oneUnitATick();
        lastSegmentHasItsBytes();
        oldBytesAreNotSent();
        classOneIsClosedWithEnd();
        endAgainInTheTthTick();
        threeEndsThenFailed();
        silenceOf4T();
        silenceFromARepair();
        acknowledgedInTheLastTick();
        ackBeforeTheCancelledEnd();
        nakNamesWhatIsRepaired();
        repairsInOrder();
        naksAddUp();
        repairsAreOnce();
        nakOfACancelledOne();
        finishedTellsTheResult();
        closedOnesAnswerFinished();
        closedOnesDropTheRest();
        repairsPutEndOff();
        repairsPutClosingOff();
        cancelAnswers();
        cancelAtEachPlace();
        cancelCountsFromOne();
        cancelledClassOne();
        finishedBeforeTheCancelledEnd();
        suspendAnswers();
        suspendedSendsNothing();
        suspendedTicksCountForNoEnd();
        suspendedTicksCountForNoSilence();
        suspendedGetsAndAnswers();
        suspendedAndCancelled();
        senderAnswers();
        Check.end();
    }

    private static int t(int timer) {
        return 4 + (timer & 7);
    }

    private static Script sending(String name, int timer, int size, int kind) {
        return new Script(name + ", timer " + timer, timer).file(0, 0, size).put(1, 0, 0, 0, kind);
    }

    /** All was sent, class 2; END was sent in the latest tick; all of it is lost. */
    private static Script allSent(String name, int timer, int size) {
        return sending(name, timer, size, 2).ticks(2 + (size + 3) / 4).loseAll();
    }

    /** All was sent, class 2, and only END came; its ACK stands at 0, its NAK at 1. */
    private static Script answered(String name, int timer, int size) {
        Script s = sending(name, timer, size, 2).ticks(2 + (size + 3) / 4);
        for (int i = 0; i < 1 + (size + 3) / 4; i++) {
            s.lose(0);
        }
        return s.deliver(0).kinds(Script.ACK, Script.NAK);
    }

    /** Ticks in which what is sent is lost, whoever sends it. */
    private static Script lostTicks(Script s, int n) {
        for (int i = 0; i < n; i++) {
            s.ticks(1).loseAll();
        }
        return s;
    }

    /** "One tick: the time, from 1." */
    private static void timeIsFromOne() {
        Script s = new Script("time", 0);
        for (int time = 1; time <= Counted.MOST_CALLS; time++) {
            s.due("tick()", s.x.tick(), time);
        }
    }

    /** "METADATA, then DATA of each segment in order, then END": of an empty file, a full one, and those between. */
    private static void whatAFileIsSentAs() {
        for (int size : new int[] {0, 1, 3, 4, 5, 8, 9, 60, 61, 63, 64}) {
            int segments = size / 4 + (size % 4 > 0 ? 1 : 0);
            Script s = sending("size " + size, 0, size, 1).ticks(segments + 10);
            s.due("units()", s.x.units(), segments + 2);
            s.due("first", s.x.unit(0, 0), Script.METADATA);
            for (int k = 1; k <= segments; k++) {
                s.due("unit(" + k + ", 0)", s.x.unit(k, 0), Script.DATA);
                s.detail(k, k - 1);
            }
            s.due("last", s.x.unit(segments + 1, 0), Script.END);
            s.detail(segments + 1, size).deliverAll().receiver(0, 1, Script.DONE).size(1, 0, size);
            for (int i = 0; i < size; i++) {
                s.due("at " + i, s.x.at(1, 0, i), i + 1);
            }
        }
    }

    /** "In each tick it sends one unit at most". */
    private static void oneUnitATick() {
        for (int kind = 1; kind <= 2; kind++) {
            Script s = sending("one a tick", 0, 64, kind).kinds();
            for (int i = 1; i <= 18; i++) {
                s.ticks(1).due("units()", s.x.units(), i);
            }
        }
    }

    /** "The SEGMENTS 0, 1, .. of a file are four bytes each, the last one perhaps fewer." */
    private static void lastSegmentHasItsBytes() {
        for (int size = 57; size <= 64; size++) {
            int last = (size + 3) / 4;
            int bytes = size - 4 * (last - 1);
            Script s = sending("last of " + size, 0, size, 1).ticks(last + 2).detail(last, last - 1);
            for (int i = bytes; i < 4; i++) {
                s.spoil(last, 0xff << (8 * i));
            }
            s.deliverAll().receiver(0, 1, Script.DONE);
            Script t = sending("spoiled last of " + size, 0, size, 1).ticks(last + 2);
            t.spoil(last, 1 << (8 * (bytes - 1))).deliverAll().receiver(0, 1, Script.FAILED);
        }
    }

    /** The same of a file that was longer before: it has no byte of that, nor has its checksum. */
    private static void oldBytesAreNotSent() {
        for (int size : new int[] {0, 1, 5, 62}) {
            Script s = new Script("created again with " + size, 0).file(0, 0, 64);
            s.due("delete", s.x.delete(0, 0), true);
            s.file(0, 0, size).put(1, 0, 0, 1, 1).ticks(2 + (size + 3) / 4).deliverAll();
            s.receiver(0, 1, Script.DONE).size(1, 1, size);
            Script t = new Script("replaced with " + size, 0).file(0, 0, size).file(1, 1, 64).put(1, 0, 0, 1, 1);
            t.ticks(2 + (size + 3) / 4).deliverAll().size(1, 1, size).put(1, 1, 1, 2, 2);
            t.ticks(2 + (size + 3) / 4).detail(1 + (size + 3) / 4, size).deliverAll().receiver(1, 1, Script.DONE).size(0, 2, size);
        }
    }

    /** "With class 1 it is closed then, DONE.": in the tick of END, not before. */
    private static void classOneIsClosedWithEnd() {
        for (int size : new int[] {0, 4, 64}) {
            Script s = sending("class 1", 0, size, 1).ticks(1 + size / 4).sender(0, 1, Script.OPEN);
            s.ticks(1).sender(0, 1, Script.DONE).quietThen(50).sender(0, 1, Script.DONE);
        }
    }

    /** "a timer of T ticks, which begins with each END that it sends: in the T-th tick after that it sends END again". */
    private static void endAgainInTheTthTick() {
        for (int timer : TIMERS) {
            Script s = allSent("END again", timer, 5);
            s.quietThen(t(timer) - 1, Script.END).detail(0, 5).quietThen(t(timer) - 1, Script.END).detail(0, 5);
            s.due("goes to", s.x.unit(0, 1), 1);
        }
    }

    /** "but when three were sent it is closed, FAILED." */
    private static void threeEndsThenFailed() {
        for (int timer : TIMERS) {
            Script s = allSent("three ENDs", timer, 0);
            s.quietThen(t(timer) - 1, Script.END).quietThen(t(timer) - 1, Script.END);
            s.quietThen(t(timer) - 2).sender(0, 1, Script.OPEN);
            s.ticks(1).kinds().sender(0, 1, Script.FAILED).quietThen(5 * t(timer)).sender(0, 1, Script.FAILED);
        }
    }

    /** "in the 4 * T-th tick behind the latest unit that it got or sent it is closed, FAILED"; "What comes between ticks counts for the latest tick." */
    private static void silenceOf4T() {
        for (int timer : TIMERS) {
            Script s = answered("silence behind an ACK", timer, 0).lose(1);
            lostTicks(s.deliver(0), 4 * t(timer) - 1).sender(0, 1, Script.OPEN);
            s.ticks(1).sender(0, 1, Script.FAILED);
            Script t = answered("a later ACK", timer, 0).lose(1).copy(0).deliver(0);
            for (int i = 0; i < t(timer) - 1; i++) {
                t.ticks(1);
            }
            t.kinds(Script.ACK).deliver(0);
            lostTicks(t, 4 * t(timer) - 1).sender(0, 1, Script.OPEN);
            t.ticks(1).sender(0, 1, Script.FAILED);
        }
    }

    /** "the latest unit that it got or sent": the repair is sent later than the NAK is got. */
    private static void silenceFromARepair() {
        for (int timer : TIMERS) {
            Script s = answered("silence behind a repair", timer, 8).deliver(0, 0);
            lostTicks(s, 3);
            lostTicks(s, 4 * t(timer) - 1).sender(0, 1, Script.OPEN);
            s.ticks(1).sender(0, 1, Script.FAILED);
        }
    }

    /** "when END was not acknowledged": an ACK that comes before the T-th tick stops END and closing. */
    private static void acknowledgedInTheLastTick() {
        for (int ends = 1; ends <= 3; ends++) {
            Script s = sending("ACK behind " + ends + " ENDs", 0, 0, 2).ticks(2 + 4 * (ends - 1));
            s.lose(0);
            for (int i = 1; i < ends; i++) {
                s.lose(0);
            }
            s.kinds(Script.END).deliver(0).kinds(Script.ACK, Script.NAK).lose(1).ticks(3).kinds(Script.ACK).deliver(0);
            s.ticks(1).kinds(Script.NAK).sender(0, 1, Script.OPEN);
            lostTicks(s.loseAll(), 14).sender(0, 1, Script.OPEN);
            s.ticks(1).sender(0, 1, Script.FAILED);
        }
    }

    /** "ACK of END: that is acknowledged (only when one was sent, and since it was cancelled, if it was)." */
    private static void ackBeforeTheCancelledEnd() {
        Script s = answered("ACK, then the cancelled END", 0, 0).lose(1).cancel(0, 1, true).deliver(0);
        s.ticks(1).kinds(Script.END).detail(0, -1);
        lostTicks(s.loseAll(), 3);
        s.ticks(1).due("END again", s.x.unit(0, 0), Script.END);
        Script t = answered("the cancelled END, then ACK", 0, 0).lose(1).cancel(0, 1, true);
        t.ticks(1).kinds(Script.ACK, Script.END).deliver(0).loseAll();
        lostTicks(t, 15).sender(0, 1, Script.OPEN);
        t.ticks(1).sender(0, 1, Script.FAILED);
        Script u = answered("acknowledged, then cancelled", 0, 0).deliver(0).loseAll().cancel(0, 1, true);
        u.ticks(1).kinds(Script.END).detail(0, -1);
        lostTicks(u.loseAll(), 3);
        u.ticks(1).due("END again", u.x.unit(0, 0), Script.END);
    }

    /** "NAK: what it names (of the segments that the file has) are repairs, too": the first and the last segment, all, or METADATA alone. */
    private static void nakNamesWhatIsRepaired() {
        int[][] lost = {{}, {0}, {15}, {0, 15}, {0, 1, 2, 3, 4, 5, 6, 7, 8, 9, 10, 11, 12, 13, 14, 15}, {7, 8, 9}};
        for (int[] row : lost) {
            Script s = sending("lost " + row.length, 0, 64, 2).ticks(18);
            for (int i = row.length - 1; i >= 0; i--) {
                s.lose(row[i] + 1);
            }
            s.lose(0);
            for (int i = 0; i < 17 - row.length; i++) {
                s.deliver(0);
            }
            s.kinds(Script.ACK, Script.NAK).deliver(1, 0).ticks(1).kinds(Script.METADATA).loseAll();
            for (int segment : row) {
                s.ticks(1).due("kind", s.x.unit(0, 0), Script.DATA);
                s.detail(0, segment).loseAll();
            }
            s.ticks(1);
            s.due("nothing more", s.x.units() == 0 || s.x.unit(0, 0) == Script.NAK, true);
        }
    }

    /** "it sends the first of these: METADATA, then the least segment." */
    private static void repairsInOrder() {
        Script s = sending("in order", 0, 16, 2).ticks(6).copy(5).lose(3, 1, 0).deliver(0, 0);
        s.kinds(Script.END, Script.END).deliver(0).kinds(Script.END, Script.ACK, Script.NAK).detail(2, 8 + 2).deliver(2);
        s.loseAll().ticks(1).kinds(Script.METADATA).ticks(1).kinds(Script.METADATA, Script.DATA).detail(1, 0);
        s.ticks(1).kinds(Script.METADATA, Script.DATA, Script.DATA).detail(2, 2);
        s.deliverAll().receiver(0, 1, Script.DONE).sender(0, 1, Script.DONE).size(1, 0, 16);
    }

    /** "are repairs, too": a later NAK that names less takes nothing back. */
    private static void naksAddUp() {
        Script s = sending("two NAKs", 0, 12, 2).ticks(5).suspend(0, 1, true, true).deliver(4).deliver(0, 0, 0);
        s.kinds(Script.DATA, Script.ACK, Script.NAK).detail(2, 8 + 1).ticks(4).detail(3, 1).deliver(2, 2);
        s.kinds(Script.DATA, Script.ACK).loseAll().suspend(0, 1, false, true).ticks(1).kinds(Script.METADATA).loseAll();
        for (int segment = 0; segment < 3; segment++) {
            s.ticks(1).due("kind", s.x.unit(0, 0), Script.DATA);
            s.detail(0, segment).loseAll();
        }
    }

    /** "(what NAKs asked for and was not sent again yet)": two NAKs of the same ask once; one that comes behind asks again. */
    private static void repairsAreOnce() {
        Script s = answered("two NAKs", 0, 4).copy(1).deliver(0, 0, 0);
        s.ticks(1).kinds(Script.METADATA).ticks(1).kinds(Script.METADATA, Script.DATA).ticks(1);
        s.kinds(Script.METADATA, Script.DATA);
        Script t = answered("a NAK behind the repairs", 0, 4).copy(1).deliver(0, 0);
        t.ticks(2).kinds(Script.NAK, Script.METADATA, Script.DATA).deliver(0).loseAll();
        t.ticks(1).kinds(Script.METADATA).ticks(1).due("DATA again", t.x.unit(1, 0), Script.DATA);
    }

    /** "(only when END was sent, and it is not cancelled)". */
    private static void nakOfACancelledOne() {
        Script s = answered("NAK before the cancelled END", 0, 8).cancel(0, 1, true).deliver(1).loseAll();
        s.ticks(1).kinds(Script.END).detail(0, -1).loseAll().ticks(1).kinds();
        Script t = answered("NAK behind the cancelled END", 0, 8).cancel(0, 1, true).ticks(1).deliver(1).loseAll();
        t.quietThen(1);
    }

    /** "FINISHED: it sends an ACK of it, and is closed with that result.": each of the four. */
    private static void finishedTellsTheResult() {
        for (int result = 1; result <= 4; result++) {
            Script s = new Script("result " + result, 0).file(0, 0, 1).file(1, 3, 1).put(1, 0, 0, 3, 2);
            if (result == Script.REJECTED) {
                s.put(1, 1, 3, 0, 2).suspend(1, 1, true, true);
            }
            s.ticks(2);
            if (result == Script.CANCELLED) {
                s.cancel(0, 1, true);
            }
            if (result == Script.FAILED) {
                s.spoil(1, 1);
            }
            s.ticks(1).kinds(Script.METADATA, Script.DATA, Script.END).deliver(0, 0, 0).kinds(Script.ACK, Script.FINISHED);
            s.detail(1, result).sender(0, 1, Script.OPEN).deliver(1).sender(0, 1, result);
            s.kinds(Script.ACK, Script.ACK).detail(0, 3).detail(1, 4).receiver(0, 1, Script.ENDED);
            s.deliver(1).receiver(0, 1, result).sender(0, 1, result);
        }
    }

    /** "A sender that is closed answers FINISHED with an ACK all the same": and its result stays. */
    private static void closedOnesAnswerFinished() {
        Script s = sending("done", 0, 0, 2).ticks(2).deliver(0, 0).lose(0).copy(0, 0).deliver(0).sender(0, 1, Script.DONE);
        s.kinds(Script.FINISHED, Script.FINISHED, Script.ACK).deliver(0, 0).sender(0, 1, Script.DONE);
        s.kinds(Script.ACK, Script.ACK, Script.ACK).detail(0, 4).detail(1, 4).detail(2, 4);
        Script t = sending("failed", 0, 0, 2).ticks(2).deliver(0, 0).lose(0).kinds(Script.FINISHED);
        for (int i = 0; i < 12; i++) {
            t.ticks(1);
            for (int more = t.x.units(); more > 1; more--) {
                t.lose(1);
            }
        }
        t.sender(0, 1, Script.FAILED).detail(0, Script.DONE).deliver(0).kinds(Script.ACK).detail(0, 4);
        t.sender(0, 1, Script.FAILED).deliver(0).receiver(0, 1, Script.DONE);
    }

    /** "what else comes for it .. is dropped". */
    private static void closedOnesDropTheRest() {
        Script s = answered("ACK and NAK of a closed one", 0, 4).copy(0, 1);
        s.lose(0, 0).kinds(Script.ACK, Script.NAK);
        for (int i = 0; i < 12; i++) {
            s.ticks(1);
            for (int more = s.x.units(); more > 2; more--) {
                s.lose(2);
            }
        }
        s.sender(0, 1, Script.FAILED).deliver(0, 0).kinds().sender(0, 1, Script.FAILED);
        s.due("not locked", s.x.append(0, 0, 1, 5), 5);
        s.quietThen(2);
    }

    /** "or, when something that is said before was due in that, in the first one behind it in which nothing such is." */
    private static void repairsPutEndOff() {
        for (int segments = 0; segments <= 6; segments++) {
            Script s = answered("END behind " + segments, 0, 4 * segments).lose(0).ticks(3).kinds(Script.NAK).deliver(0);
            for (int i = 0; i <= segments; i++) {
                s.ticks(1).due("repair " + i, s.x.unit(0, 0), i == 0 ? Script.METADATA : Script.DATA);
                s.loseAll();
            }
            s.ticks(1).due("END", s.x.unit(0, 0), Script.END);
            s.detail(0, 4 * segments).loseAll();
            lostTicks(s, 3).ticks(1).due("END", s.x.unit(0, 0), Script.END);
        }
        Script early = answered("repairs are over before", 0, 4).lose(0).deliver(0);
        early.ticks(1).kinds(Script.METADATA).ticks(1).kinds(Script.METADATA, Script.DATA).loseAll();
        early.ticks(1).kinds().ticks(1).due("END", early.x.unit(0, 0), Script.END);
    }

    /** The same when three were sent and it is to be closed. */
    private static void repairsPutClosingOff() {
        Script s = answered("closing", 0, 8).lose(0);
        for (int i = 0; i < 11; i++) {
            s.ticks(1);
            for (int more = s.x.units(); more > 1; more--) {
                s.lose(1);
            }
        }
        s.kinds(Script.NAK).deliver(0);
        for (int i = 0; i < 3; i++) {
            s.ticks(1).due("repair " + i, s.x.unit(0, 0), i == 0 ? Script.METADATA : Script.DATA);
            s.sender(0, 1, Script.OPEN).loseAll();
        }
        s.ticks(1).sender(0, 1, Script.FAILED);
    }

    /** "An open sender that is not cancelled is: true; false otherwise." */
    private static void cancelAnswers() {
        Script s = sending("cancel", 0, 4, 2);
        for (int[] no : NO_SENDERS) {
            s.cancel(no[0], no[1], false);
        }
        s.ticks(1).kinds(Script.METADATA).cancel(0, 1, true).cancel(0, 1, false).ticks(1).cancel(0, 1, false);
        s.kinds(Script.METADATA, Script.END).deliverAll().sender(0, 1, Script.CANCELLED).cancel(0, 1, false);
        sending("done", 0, 0, 1).ticks(2).sender(0, 1, Script.DONE).cancel(0, 1, false).quietThen(5);
        allSent("failed", 0, 0).ticks(12).sender(0, 1, Script.FAILED).cancel(0, 1, false).quietThen(5);
        Script none = new Script("none", 0).file(0, 0, 0);
        none.cancel(0, 1, false).put(1, 0, 0, 0, 1).ticks(2).kinds(Script.METADATA, Script.END).detail(1, 0);
    }

    /** "it sends no METADATA, DATA or repairs any more, but in the next tick an END that says so". */
    private static void cancelAtEachPlace() {
        for (int kind = 1; kind <= 2; kind++) {
            for (int ticks = 0; ticks <= 3; ticks++) {
                Script s = sending("cancelled behind " + ticks, 0, 8, kind).ticks(ticks).loseAll().cancel(0, 1, true).kinds();
                s.ticks(1).kinds(Script.END).detail(0, -1).quietThen(2);
                s.sender(0, 1, kind == 1 ? Script.CANCELLED : Script.OPEN);
            }
        }
        for (int sent = 0; sent <= 2; sent++) {
            Script s = answered("cancelled behind repair " + sent, 7, 8).deliver(0, 0).ticks(sent).loseAll();
            s.cancel(0, 1, true).ticks(1).kinds(Script.END).detail(0, -1).quietThen(3);
        }
    }

    /** "as the first one": its timer and its three begin again. */
    private static void cancelCountsFromOne() {
        for (int timer : TIMERS) {
            for (int before = 0; before <= 3; before++) {
                Script s = sending("cancelled behind " + before, timer, 0, 2).ticks(1);
                if (before > 0) {
                    s.ticks(1 + (before - 1) * t(timer) + 1);
                }
                s.loseAll().cancel(0, 1, true).ticks(1).kinds(Script.END).detail(0, -1);
                s.quietThen(t(timer) - 1, Script.END).detail(0, -1).quietThen(t(timer) - 1, Script.END).detail(0, -1);
                s.quietThen(t(timer) - 2).sender(0, 1, Script.OPEN).ticks(1).kinds().sender(0, 1, Script.FAILED);
            }
        }
    }

    /** "(class 1: and is closed then, CANCELLED)". */
    private static void cancelledClassOne() {
        Script s = sending("class 1", 0, 64, 1).ticks(17).cancel(0, 1, true).sender(0, 1, Script.OPEN);
        s.ticks(1).sender(0, 1, Script.CANCELLED).detail(17, -1).due("units()", s.x.units(), 18);
        s.quietThen(30).sender(0, 1, Script.CANCELLED);
    }

    /** "is closed with that result": a cancelled one may be DONE. */
    private static void finishedBeforeTheCancelledEnd() {
        Script s = sending("cancelled too late", 0, 0, 2).ticks(2).deliver(0, 0).cancel(0, 1, true).deliver(1);
        s.sender(0, 1, Script.DONE).loseAll().quietThen(2).cancel(0, 1, false);
    }

    /** "An open sender is suspended, or goes on: whether that changed something." */
    private static void suspendAnswers() {
        Script s = sending("suspend", 0, 4, 2);
        for (int[] no : NO_SENDERS) {
            s.suspend(no[0], no[1], true, false).suspend(no[0], no[1], false, false);
        }
        s.suspend(0, 1, false, false).ticks(1).kinds(Script.METADATA).suspend(0, 1, true, true).suspend(0, 1, true, false);
        s.ticks(1).kinds(Script.METADATA).suspend(0, 1, false, true).suspend(0, 1, false, false);
        s.ticks(1).kinds(Script.METADATA, Script.DATA);
        Script t = sending("closed", 0, 0, 1).ticks(2).sender(0, 1, Script.DONE);
        t.suspend(0, 1, true, false).suspend(0, 1, false, false);
        Script u = sending("closed while suspended", 0, 0, 2).ticks(2).suspend(0, 1, true, true).deliverAll();
        u.sender(0, 1, Script.DONE).suspend(0, 1, false, false).suspend(0, 1, true, false);
    }

    /** "A SUSPENDED sender sends nothing in ticks": no METADATA, DATA, END, repairs. */
    private static void suspendedSendsNothing() {
        for (int ticks = 0; ticks <= 2; ticks++) {
            Script s = sending("suspended behind " + ticks, 0, 4, 1).ticks(ticks).suspend(0, 1, true, true).quietThen(30);
            int[] next = {Script.METADATA, Script.DATA, Script.END};
            s.sender(0, 1, Script.OPEN).suspend(0, 1, false, true).kinds().ticks(1).kinds(next[ticks]);
        }
        Script r = answered("suspended repairs", 0, 4).deliver(0, 0).suspend(0, 1, true, true).quietThen(2);
        r.suspend(0, 1, false, true).ticks(1).due("METADATA", r.x.unit(0, 0), Script.METADATA);
    }

    /** "For a sender ticks in which it is suspended do not count.": for the T ticks of END and for closing. */
    private static void suspendedTicksCountForNoEnd() {
        for (int before = 0; before < 4; before++) {
            Script s = allSent("END, suspended behind " + before, 0, 0).ticks(before).kinds().suspend(0, 1, true, true);
            s.quietThen(20).suspend(0, 1, false, true).kinds().quietThen(3 - before, Script.END);
            Script t = allSent("closing, suspended behind " + before, 0, 0).ticks(8 + before).loseAll().suspend(0, 1, true, true);
            t.quietThen(20).sender(0, 1, Script.OPEN).suspend(0, 1, false, true).ticks(3 - before).sender(0, 1, Script.OPEN);
            t.ticks(1).kinds().sender(0, 1, Script.FAILED);
        }
    }

    /** The same for the 4 * T ticks. */
    private static void suspendedTicksCountForNoSilence() {
        for (int before : new int[] {0, 1, 14, 15}) {
            Script s = answered("silence, suspended behind " + before, 0, 0).lose(1).deliver(0);
            lostTicks(s, before).suspend(0, 1, true, true);
            lostTicks(s, 20).sender(0, 1, Script.OPEN).suspend(0, 1, false, true);
            lostTicks(s, 15 - before).sender(0, 1, Script.OPEN);
            s.ticks(1).sender(0, 1, Script.FAILED);
        }
        Script got = answered("an ACK while suspended", 0, 0).lose(1).copy(0).deliver(0).ticks(2).suspend(0, 1, true, true);
        got.ticks(1).kinds(Script.ACK).deliver(0);
        lostTicks(got, 5).suspend(0, 1, false, true);
        lostTicks(got, 15).sender(0, 1, Script.OPEN);
        got.ticks(1).sender(0, 1, Script.FAILED);
    }

    /** "it gets what comes, and answers FINISHED." */
    private static void suspendedGetsAndAnswers() {
        Script s = sending("suspended", 0, 0, 2).ticks(2).suspend(0, 1, true, true).deliver(0, 0);
        s.kinds(Script.ACK, Script.FINISHED).deliver(1).kinds(Script.ACK, Script.ACK).detail(1, 4).sender(0, 1, Script.DONE);
        Script t = answered("suspended, ACK", 0, 0).lose(1).suspend(0, 1, true, true).deliver(0).suspend(0, 1, false, true);
        t.ticks(4).kinds(Script.NAK).sender(0, 1, Script.OPEN);
    }

    /** "in the next tick an END that says so", but "A SUSPENDED sender sends nothing in ticks". */
    private static void suspendedAndCancelled() {
        for (int kind = 1; kind <= 2; kind++) {
            Script s = sending("suspended, cancelled", 0, 8, kind).ticks(1).suspend(0, 1, true, true).cancel(0, 1, true);
            s.quietThen(20).sender(0, 1, Script.OPEN).suspend(0, 1, false, true);
            s.ticks(1).kinds(Script.END).detail(0, -1).sender(0, 1, kind == 1 ? Script.CANCELLED : Script.OPEN);
            Script t = sending("cancelled, suspended", 0, 8, kind).cancel(0, 1, true).suspend(0, 1, true, true);
            t.quietThen(9).cancel(0, 1, false).suspend(0, 1, false, true).ticks(1).kinds(Script.END).detail(0, -1);
        }
    }

    /** "A sender: 0 there is none, 5 it is open, else its result." */
    private static void senderAnswers() {
        Script s = sending("sender", 0, 0, 1);
        for (int[] no : NO_SENDERS) {
            s.sender(no[0], no[1], 0);
        }
        s.sender(0, 1, Script.OPEN).ticks(2).sender(0, 1, Script.DONE).sender(1, 1, 0).put(2, 0, 0, 0, 1).sender(0, 2, Script.OPEN);
        s.sender(0, 1, Script.DONE).sender(0, 3, 0).suspend(0, 2, true, true).cancel(0, 2, true).sender(0, 2, Script.OPEN);
    }
}
