/** Promise 19 and the terms of requests: a test for each sentence that names an edge, which stands above it. */
final class RequestEdgesTest {
    private static final int DELETE = 1;
    private static final int COPY = 2;

    private RequestEdgesTest() {
    }

    public static void main(String[] args) {
        none();
        deletesOther();
        deletesWhatIsNotThere();
        deletesDest();
        copiesToOther();
        copiesToDest();
        copyIsApart();
        otherIsLocked();
        otherIsLockedNoMore();
        otherOfTheSenderIsAnother();
        notTriedBeforeItIsPut();
        notTriedWhenNotPut();
        doneOnlyOnce();
        answersBeforeItIsClosed();
        wrongNumbers();
        Check.end();
    }

    /** All units of file 0 of entity 0 are under way to file 1 of entity 1; the sender is still or closed. */
    private static Script sent(Script s, int size, int kind, int request, int other) {
        s.file(0, 0, size).due("put", s.x.put(0, 0, 1, kind, request, other), 1);
        s.ticks(2 + (size + 3) / 4);
        if (kind == 2) {
            s.suspend(0, 1, true, true);
        }
        return s;
    }

    private static Script script(String name, int kind) {
        return new Script(name + ", class " + kind, 0);
    }

    /** "0 there is none": OTHER is as it was. */
    private static void none() {
        for (int kind = 1; kind <= 2; kind++) {
            for (int other : new int[] {0, 1, 5}) {
                Script s = sent(script("none", kind).file(1, 5, 2), 3, kind, 0, other).deliverAll();
                s.request(0, 1, 0).receiver(0, 1, Script.DONE).size(1, 1, 3).size(1, 5, 2).size(1, 0, -1);
            }
        }
    }

    /** "1 delete file OTHER there": an empty one, a full one. */
    private static void deletesOther() {
        for (int kind = 1; kind <= 2; kind++) {
            for (int size : new int[] {0, 1, 64}) {
                Script s = sent(script("delete " + size, kind).file(1, 0, size).file(1, 5, 1), 3, kind, DELETE, 0).deliverAll();
                s.request(0, 1, 1).size(1, 0, -1).size(1, 1, 3).size(1, 5, 1).size(0, 0, 3);
            }
        }
    }

    /** "what it wants is not done when OTHER is not there to be deleted": and it is DONE all the same. */
    private static void deletesWhatIsNotThere() {
        for (int kind = 1; kind <= 2; kind++) {
            for (int other : new int[] {0, 5}) {
                Script s = sent(script("delete none", kind), 3, kind, DELETE, other).deliverAll();
                s.request(0, 1, 2).receiver(0, 1, Script.DONE).size(1, other, -1).size(1, 1, 3).size(0, 0, 3);
            }
        }
    }

    /** "when it was put, the request is done": behind that, so DEST itself is there to be deleted. */
    private static void deletesDest() {
        for (int kind = 1; kind <= 2; kind++) {
            sent(script("delete DEST", kind), 3, kind, DELETE, 1).deliverAll().request(0, 1, 1).receiver(0, 1, Script.DONE).size(1, 1, -1);
            sent(script("delete DEST in place", kind).file(1, 1, 9), 3, kind, DELETE, 1).deliverAll().request(0, 1, 1).size(1, 1, -1);
        }
    }

    /** "2 make file OTHER there a copy of DEST.": in place of none, a shorter, a longer one. */
    private static void copiesToOther() {
        for (int kind = 1; kind <= 2; kind++) {
            for (int size : new int[] {0, 5, 64}) {
                for (int old : new int[] {-1, 0, 64}) {
                    Script s = script("copy " + size + " to " + old, kind);
                    if (old >= 0) {
                        s.file(1, 5, old);
                    }
                    sent(s, size, kind, COPY, 5).deliverAll().request(0, 1, 1).size(1, 1, size).size(1, 5, size).size(0, 5, -1);
                    for (int i = 0; i < size; i++) {
                        s.due("at " + i, s.x.at(1, 5, i), i + 1);
                    }
                }
            }
        }
    }

    /** The same of DEST itself. */
    private static void copiesToDest() {
        for (int kind = 1; kind <= 2; kind++) {
            sent(script("copy to DEST", kind), 3, kind, COPY, 1).deliverAll().request(0, 1, 1).bytes(1, 1, 1, 2, 3);
        }
    }

    /** The same: what is done to one later is not done to the other. */
    private static void copyIsApart() {
        Script s = sent(script("apart", 1), 3, 1, COPY, 5).deliverAll();
        s.due("append", s.x.append(1, 1, 1, 9), 4);
        s.due("append", s.x.append(1, 5, 2, 0x0807), 5);
        s.bytes(1, 1, 1, 2, 3, 9).bytes(1, 5, 1, 2, 3, 7, 8).due("delete", s.x.delete(1, 1), true);
        s.bytes(1, 5, 1, 2, 3, 7, 8);
    }

    /** "or is locked.": neither deleted nor made a copy, but DEST is put. */
    private static void otherIsLocked() {
        for (int kind = 1; kind <= 2; kind++) {
            for (int request = DELETE; request <= COPY; request++) {
                Script s = script("locked, request " + request, kind).file(1, 2, 7).put(1, 1, 2, 5, 2).suspend(1, 1, true, true);
                sent(s, 3, kind, request, 2).deliverAll().request(0, 1, 2).receiver(0, 1, Script.DONE).size(1, 2, 7).size(1, 1, 3);
            }
        }
    }

    /** "LOCKED while a transaction that sends it is OPEN": no more when it is closed before. */
    private static void otherIsLockedNoMore() {
        for (int request = DELETE; request <= COPY; request++) {
            Script s = script("locked before", 1).file(1, 2, 0).put(1, 1, 2, 5, 1).ticks(2).loseAll();
            sent(s, 3, 1, request, 2).deliverAll().request(0, 1, 1).size(1, 2, request == DELETE ? -1 : 3);
        }
    }

    /** "there": at the other entity; the file of that number that is sent is locked here, and stays. */
    private static void otherOfTheSenderIsAnother() {
        for (int request = DELETE; request <= COPY; request++) {
            Script s = sent(script("there", 2).file(1, 0, 2), 3, 2, request, 0).deliverAll();
            s.request(0, 1, 1).size(1, 0, request == DELETE ? -1 : 3).size(0, 0, 3);
        }
    }

    /** "0 there is none, or it was not tried": no transaction, no receiver, one that waits. */
    private static void notTriedBeforeItIsPut() {
        Script s = script("not yet", 2).request(0, 1, 0).file(1, 2, 7);
        sent(s, 4, 2, DELETE, 2).request(0, 1, 0).deliver(0).request(0, 1, 0).deliver(1).request(0, 1, 0).size(1, 2, 7);
        s.deliver(0).request(0, 1, 1).size(1, 2, -1);
    }

    /** The same of one that ends otherwise: CANCELLED, FAILED by its sum or its time, REJECTED. */
    private static void notTriedWhenNotPut() {
        for (int kind = 1; kind <= 2; kind++) {
            Script failed = sent(script("sum", kind).file(1, 2, 7), 4, kind, DELETE, 2).spoil(1, 1).deliverAll();
            failed.receiver(0, 1, Script.FAILED).request(0, 1, 0).size(1, 2, 7);
            Script late = sent(script("time", kind).file(1, 2, 7), 4, kind, COPY, 2).deliver(0).ticks(16);
            late.receiver(0, 1, Script.FAILED).deliverAll().request(0, 1, 0).size(1, 2, 7);
            Script cancelled = script("cancelled", kind).file(0, 0, 4).file(1, 2, 7);
            cancelled.due("put", cancelled.x.put(0, 0, 1, kind, DELETE, 2), 1);
            cancelled.ticks(2).cancel(0, 1, true).ticks(1).deliverAll().receiver(0, 1, Script.CANCELLED).request(0, 1, 0).size(1, 2, 7);
            for (int request = DELETE; request <= COPY; request++) {
                Script locked = script("rejected", kind).file(1, 2, 7).file(1, 1, 1).put(1, 1, 1, 5, 2).suspend(1, 1, true, true);
                sent(locked, 4, kind, request, 2).deliverAll().receiver(0, 1, Script.REJECTED).request(0, 1, 0);
                locked.size(1, 2, 7).size(1, 1, 1);
            }
        }
    }

    /** "It notes nothing more when it has ended.": copies of its units do not do the request again. */
    private static void doneOnlyOnce() {
        for (int kind = 1; kind <= 2; kind++) {
            Script s = sent(script("once", kind).file(1, 2, 7), 0, kind, DELETE, 2).copy(0, 1).deliver(0, 0).request(0, 1, 1);
            s.due("create", s.x.create(1, 2), true);
            s.deliver(0, 0).size(1, 2, 0).request(0, 1, 1).deliverAll().size(1, 2, 0).request(0, 1, 1);
        }
    }

    /** "1 it was done, 2 it was tried and not done.": as soon as it was tried, and for good. */
    private static void answersBeforeItIsClosed() {
        int[][] rows = {{DELETE, 2, 1}, {DELETE, 5, 2}, {COPY, 5, 1}};
        for (int[] row : rows) {
            Script s = sent(script("at once", 2).file(1, 2, 7), 0, 2, row[0], row[1]).deliver(0, 0).receiver(0, 1, Script.ENDED);
            s.request(0, 1, row[2]).ticks(12).receiver(0, 1, Script.DONE).request(0, 1, row[2]);
        }
    }

    /** "The request of a transaction that this entity sends: 0 there is none". */
    private static void wrongNumbers() {
        Script s = sent(script("numbers", 1), 0, 1, COPY, 5).deliverAll().request(0, 1, 1);
        int[][] rows = {
            {1, 1}, {0, 0}, {0, 2}, {0, -1}, {-1, 1}, {2, 1}, {0, Integer.MIN_VALUE}, {0, Integer.MAX_VALUE},
            {Integer.MIN_VALUE, 1}, {Integer.MAX_VALUE, 1},
        };
        for (int[] no : rows) {
            s.request(no[0], no[1], 0);
        }
    }
}
