/** Promise 19: request. */
final class RequestTest {
    private RequestTest() {
    }

    public static void main(String[] args) {
        none();
        deleteOther();
        copyToOther();
        locked();
        notTried();
        Check.end();
    }

    /** Entity 0 sends its file 0 of three bytes to file 1 of entity 1, which has a file 2 of seven. */
    private static Script sent(String name, int kind, int request, int other) {
        Script s = new Script(name, 0).file(0, 0, 3).file(1, 2, 7);
        s.x.put(0, 0, 1, kind, request, other);
        return s.ticks(3);
    }

    private static void none() {
        Script s = sent("none", 2, 0, 2).deliverAll().request(0, 1, 0).size(1, 2, 7).size(1, 1, 3);
        int[][] rows = {{1, 1}, {0, 2}, {0, 0}, {-1, 1}, {2, 1}, {0, Integer.MIN_VALUE}, {0, Integer.MAX_VALUE}};
        for (int[] r : rows) {
            s.request(r[0], r[1], 0);
        }
    }

    private static void deleteOther() {
        for (int kind = 1; kind <= 2; kind++) {
            sent("delete", kind, 1, 2).request(0, 1, 0).deliverAll().request(0, 1, 1).size(1, 2, -1).size(1, 1, 3);
            sent("delete what is not there", kind, 1, 5).deliverAll().request(0, 1, 2)
                .receiver(0, 1, Script.DONE).size(1, 1, 3);
            sent("delete DEST", kind, 1, 1).deliverAll().request(0, 1, 1).receiver(0, 1, Script.DONE).size(1, 1, -1);
        }
        sent("the other's file, not its own", 1, 1, 0).deliverAll().request(0, 1, 2).size(0, 0, 3);
    }

    private static void copyToOther() {
        for (int kind = 1; kind <= 2; kind++) {
            Script s = sent("copy", kind, 2, 2).deliverAll().request(0, 1, 1).size(1, 2, 3).size(1, 1, 3);
            s.due("byte 2", s.x.at(1, 2, 2), 3);
            s.x.append(1, 1, 1, 9);
            s.size(1, 2, 3);
            sent("copy to one that is not there", kind, 2, 5).deliverAll().request(0, 1, 1).size(1, 5, 3);
            sent("copy to DEST", kind, 2, 1).deliverAll().request(0, 1, 1).size(1, 1, 3);
        }
    }

    private static void locked() {
        for (int request = 1; request <= 2; request++) {
            Script s = sent("locked", 2, request, 2);
            s.x.put(1, 2, 5, 2, 0, 0);
            s.x.suspend(1, 1, true);
            s.deliverAll().request(0, 1, 2).receiver(0, 1, Script.DONE).size(1, 2, 7).size(1, 1, 3);
        }
    }

    private static void notTried() {
        Script s = sent("spoiled", 2, 1, 2);
        s.x.spoil(1, 1);
        s.deliverAll().receiver(0, 1, Script.FAILED).request(0, 1, 0).size(1, 2, 7);
        Script t = sent("cancelled", 2, 1, 2).loseAll();
        t.x.cancel(0, 1);
        t.ticks(1).deliverAll().receiver(0, 1, Script.CANCELLED).request(0, 1, 0).size(1, 2, 7);
        Script u = sent("DEST is locked", 2, 1, 2).file(1, 1, 1);
        u.x.put(1, 1, 5, 2, 0, 0);
        u.x.suspend(1, 1, true);
        u.deliverAll().receiver(0, 1, Script.REJECTED).request(0, 1, 0).size(1, 2, 7);
    }
}
