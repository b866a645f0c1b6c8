import java.util.NoSuchElementException;

/** Promise 7: put. */
final class PutTest {
    private PutTest() {
    }

    public static void main(String[] args) {
        numbers();
        wrongArguments();
        threeOpen();
        locks();
        Check.end();
    }

    private static void numbers() {
        Script s = new Script("numbers", 0).file(0, 0, 1).file(1, 5, 1);
        s.due("first of 0", s.x.put(0, 0, 5, 1, 0, 0), 1);
        s.due("first of 1", s.x.put(1, 5, 0, 2, 2, 5), 1);
        s.due("second of 0", s.x.put(0, 0, 0, 2, 1, 5), 2);
        s.sender(0, 1, Script.OPEN).sender(0, 2, Script.OPEN).sender(0, 3, 0).sender(0, 0, 0).sender(1, 1, Script.OPEN);
        s.receiver(0, 1, 0).kinds();
        s.ticks(1).kinds(Script.METADATA, Script.METADATA, Script.METADATA);
        s.detail(0, 5).detail(1, 0).detail(2, 0);
    }

    private static void wrongArguments() {
        Script s = new Script("wrong", 0).file(0, 0, 1);
        int[][] rows = {
            {-1, 0, 0, 1, 0, 0}, {2, 0, 0, 1, 0, 0}, {0, -1, 0, 1, 0, 0}, {0, 6, 0, 1, 0, 0},
            {0, 0, -1, 1, 0, 0}, {0, 0, 6, 1, 0, 0}, {0, 0, 0, 0, 0, 0}, {0, 0, 0, 3, 0, 0},
            {0, 0, 0, 1, -1, 0}, {0, 0, 0, 1, 3, 0}, {0, 0, 0, 1, 0, -1}, {0, 0, 0, 1, 0, 6},
            {0, 1, 6, 1, 0, 0}, {0, 1, 0, 1, 0, 6}, {Integer.MIN_VALUE, 0, 0, 1, 0, 0},
            {0, 0, 0, Integer.MAX_VALUE, 0, 0}, {0, 0, Integer.MIN_VALUE, 1, 0, 0},
        };
        for (int[] r : rows) {
            Check.refused("put " + java.util.Arrays.toString(r), IllegalArgumentException.class,
                () -> s.x.put(r[0], r[1], r[2], r[3], r[4], r[5]));
        }
        Check.refused("put of none", NoSuchElementException.class, () -> s.x.put(0, 1, 0, 1, 0, 0));
        Check.refused("put of the other's", NoSuchElementException.class, () -> s.x.put(1, 0, 0, 1, 0, 0));
        s.due("refused ones take no number", s.x.put(0, 0, 0, 1, 0, 0), 1);
    }

    private static void threeOpen() {
        Script s = new Script("three", 0).file(0, 0, 0).file(1, 0, 0);
        for (int number = 1; number <= 3; number++) {
            s.due("put", s.x.put(0, 0, 0, 1, 0, 0), number);
        }
        Check.refused("a fourth", IllegalStateException.class, () -> s.x.put(0, 0, 0, 1, 0, 0));
        Check.refused("a fourth of none", NoSuchElementException.class, () -> s.x.put(0, 1, 0, 1, 0, 0));
        Check.refused("a wrong fourth", IllegalArgumentException.class, () -> s.x.put(0, 0, 0, 0, 0, 0));
        s.due("put at the other", s.x.put(1, 0, 1, 1, 0, 0), 1);
        s.ticks(1);
        Check.refused("a fourth later", IllegalStateException.class, () -> s.x.put(0, 0, 0, 1, 0, 0));
        s.ticks(1);
        s.due("when they are closed", s.x.put(0, 0, 0, 1, 0, 0), 4);
    }

    /** A file is locked as long as one of its senders is open. */
    private static void locks() {
        Script s = new Script("locks", 0).file(0, 0, 4).file(0, 1, 1);
        s.x.put(0, 0, 0, 1, 0, 0);
        s.x.put(0, 0, 0, 2, 0, 0);
        s.ticks(3).sender(0, 1, Script.DONE).sender(0, 2, Script.OPEN);
        Check.refused("delete, locked by the second", IllegalStateException.class, () -> s.x.delete(0, 0));
        s.due("another file", s.x.delete(0, 1), true);
        s.deliverAll().sender(0, 2, Script.DONE);
        s.due("delete", s.x.delete(0, 0), true);
    }
}
