import java.util.NoSuchElementException;

/** Promise 7, locks and numbers: a test for each sentence that names an edge, which stands above it. */
final class PutEdgesTest {
    private PutEdgesTest() {
    }

    public static void main(String[] args) {
        timerIsFourAndThreeBits();
        numbersBeginWithOneAtEach();
        refusedOnesTakeNoNumber();
        noSuchEntityOrFile();
        destIsZeroToFive();
        otherIsZeroToFive();
        kindIsOneOrTwo();
        requestIsZeroToTwo();
        everyRightArgumentIsTaken();
        fileIsNotThere();
        threeSendersAreOpen();
        threeAtEachEntity();
        closedMakesRoomInItsTick();
        closedByFinishedMakesRoom();
        suspendedAndCancelledOnesAreOpen();
        lockedFromPutToClosing();
        lockedByTheLastOfTwo();
        lockedWhileSuspendedOrCancelled();
        lockedOnlyByItsSender();
        anEmptyFileIsLockedToo();
        Check.end();
    }

    /** "T is 4 + the lowest three bits of the constructor's argument." */
    private static void timerIsFourAndThreeBits() {
        int[][] rows = {
            {0, 4}, {1, 5}, {2, 6}, {3, 7}, {4, 8}, {5, 9}, {6, 10}, {7, 11}, {8, 4}, {9, 5}, {15, 11}, {16, 4},
            {-1, 11}, {-2, 10}, {-7, 5}, {-8, 4}, {-9, 11}, {Integer.MIN_VALUE, 4}, {Integer.MAX_VALUE, 11},
            {Integer.MIN_VALUE + 1, 5}, {Integer.MAX_VALUE - 7, 4}, {0x100, 4},
        };
        for (int[] row : rows) {
            Script s = new Script("T of " + row[0], row[0]).file(1, 0, 0).put(1, 1, 0, 0, 2);
            s.ticks(2).kinds(Script.METADATA, Script.END).quietThen(row[1] - 1, Script.END);
        }
    }

    /** "a NUMBER 1, 2, .. there". */
    private static void numbersBeginWithOneAtEach() {
        Script s = new Script("numbers", 0).file(0, 0, 0).file(1, 0, 0);
        s.put(1, 0, 0, 0, 1).put(2, 0, 0, 0, 2).put(1, 1, 0, 1, 1).put(3, 0, 0, 0, 1).put(2, 1, 0, 2, 2);
        s.sender(0, 0, 0).sender(0, 1, 5).sender(0, 3, 5).sender(0, 4, 0).sender(1, 0, 0).sender(1, 2, 5).sender(1, 3, 0);
        s.ticks(2).put(4, 0, 0, 0, 1).put(3, 1, 0, 0, 1);
    }

    /** "A sender is opened: its number.": by no call that is refused. */
    private static void refusedOnesTakeNoNumber() {
        Script s = new Script("refused", 0).file(0, 0, 0);
        s.refused("class", IllegalArgumentException.class, () -> s.x.put(0, 0, 0, 3, 0, 0));
        s.refused("none", NoSuchElementException.class, () -> s.x.put(0, 1, 0, 1, 0, 0));
        s.sender(0, 1, 0).put(1, 0, 0, 0, 2).put(2, 0, 0, 0, 2).put(3, 0, 0, 0, 2);
        s.refused("fourth", IllegalStateException.class, () -> s.x.put(0, 0, 0, 1, 0, 0));
        s.sender(0, 4, 0).cancel(0, 4, false).ticks(2).deliverAll();
        s.sender(0, 1, Script.DONE).put(4, 0, 0, 0, 1);
    }

    private static void illegal(String name, int entity, int file, int dest, int kind, int request, int other) {
        Script s = new Script(name, 0).file(0, 0, 1).file(1, 0, 1);
        s.refused("put", IllegalArgumentException.class, () -> s.x.put(entity, file, dest, kind, request, other));
        s.ticks(1).kinds().sender(0, 1, 0).sender(1, 1, 0);
        s.due("not locked", s.x.append(0, 0, 1, 1), 2);
    }

    /** "IllegalArgumentException when there is no such entity or file". */
    private static void noSuchEntityOrFile() {
        for (int no : new int[] {-1, 2, 3, Integer.MIN_VALUE, Integer.MAX_VALUE}) {
            illegal("entity " + no, no, 0, 0, 1, 0, 0);
        }
        for (int no : new int[] {-1, 6, 7, Integer.MIN_VALUE, Integer.MAX_VALUE}) {
            illegal("file " + no, 0, no, 0, 1, 0, 0);
            illegal("file " + no, 1, no, 0, 2, 0, 0);
        }
    }

    /** "dest .. is not 0 .. 5": before it is asked whether the file is there. */
    private static void destIsZeroToFive() {
        for (int no : new int[] {-1, 6, Integer.MIN_VALUE, Integer.MAX_VALUE}) {
            illegal("dest " + no, 0, 0, no, 1, 0, 0);
            illegal("dest " + no + ", no file", 0, 3, no, 2, 0, 0);
        }
    }

    /** "or other is not 0 .. 5": without a request, too. */
    private static void otherIsZeroToFive() {
        for (int no : new int[] {-1, 6, Integer.MIN_VALUE, Integer.MAX_VALUE}) {
            for (int request = 0; request <= 2; request++) {
                illegal("other " + no + ", request " + request, 0, 0, 0, 1, request, no);
            }
            illegal("other " + no + ", no file", 0, 3, 0, 2, 1, no);
        }
    }

    /** "kind (the class) is not 1 or 2". */
    private static void kindIsOneOrTwo() {
        for (int no : new int[] {0, 3, -1, Integer.MIN_VALUE, Integer.MAX_VALUE}) {
            illegal("kind " + no, 0, 0, 0, no, 0, 0);
            illegal("kind " + no + ", no file", 0, 3, 0, no, 0, 0);
        }
    }

    /** "or request is not 0 .. 2". */
    private static void requestIsZeroToTwo() {
        for (int no : new int[] {-1, 3, Integer.MIN_VALUE, Integer.MAX_VALUE}) {
            illegal("request " + no, 0, 0, 0, 1, no, 0);
            illegal("request " + no + ", no file", 0, 3, 0, 1, no, 0);
        }
    }

    /** "A sender is opened: its number.": for the least and the greatest of each argument. */
    private static void everyRightArgumentIsTaken() {
        for (int bits = 0; bits < 64; bits++) {
            int entity = bits & 1;
            int file = 5 * (bits >> 1 & 1);
            int dest = 5 * (bits >> 2 & 1);
            int kind = 1 + (bits >> 3 & 1);
            int request = 2 * (bits >> 4 & 1);
            int other = 5 * (bits >> 5 & 1);
            Script s = new Script("put " + bits, 0).file(entity, file, 0);
            s.due("put", s.x.put(entity, file, dest, kind, request, other), 1);
            s.sender(entity, 1, Script.OPEN).kinds().ticks(1).kinds(Script.METADATA).detail(0, dest);
            s.due("goes to", s.x.unit(0, 1), 1 - entity);
        }
    }

    /** "NoSuchElementException when the file is not there": and before it is asked how many are open. */
    private static void fileIsNotThere() {
        Script s = new Script("no file", 0).file(0, 0, 0).file(0, 1, 1);
        s.refused("never", NoSuchElementException.class, () -> s.x.put(0, 5, 0, 1, 0, 0));
        s.refused("only at the other", NoSuchElementException.class, () -> s.x.put(1, 0, 0, 2, 0, 0));
        s.due("delete", s.x.delete(0, 1), true);
        s.refused("no more", NoSuchElementException.class, () -> s.x.put(0, 1, 0, 1, 0, 0));
        s.put(1, 0, 0, 0, 1).put(2, 0, 0, 0, 1).put(3, 0, 0, 0, 1);
        s.refused("and three are open", NoSuchElementException.class, () -> s.x.put(0, 1, 0, 1, 0, 0));
        s.refused("a wrong class, and three are open", IllegalArgumentException.class, () -> s.x.put(0, 0, 0, 0, 0, 0));
    }

    /** "IllegalStateException when three senders are open at the entity." */
    private static void threeSendersAreOpen() {
        for (int entity = 0; entity < 2; entity++) {
            int at = entity;
            Script s = new Script("three at " + at, 0).file(at, 0, 4).file(at, 1, 0).file(at, 2, 64);
            for (int number = 1; number <= 3; number++) {
                s.put(number, at, number - 1, 0, 1 + number % 2);
            }
            for (int file = 0; file < 3; file++) {
                int of = file;
                s.refused("a fourth", IllegalStateException.class, () -> s.x.put(at, of, 0, 1, 0, 0));
            }
            s.ticks(1).kinds(Script.METADATA, Script.METADATA, Script.METADATA).sender(at, 4, 0);
        }
    }

    /** "at the entity": three at each. */
    private static void threeAtEachEntity() {
        Script s = new Script("six", 0).file(0, 0, 0).file(1, 0, 0);
        for (int number = 1; number <= 3; number++) {
            s.put(number, 0, 0, 0, 1).put(number, 1, 0, 0, 1);
        }
        for (int entity = 0; entity < 2; entity++) {
            int at = entity;
            s.refused("a fourth", IllegalStateException.class, () -> s.x.put(at, 0, 0, 1, 0, 0));
        }
        s.ticks(1).due("units()", s.x.units(), 6);
    }

    /** "With class 1 it is closed then, DONE.": behind that tick another may be opened. */
    private static void closedMakesRoomInItsTick() {
        Script s = new Script("room", 0).file(0, 0, 0).file(0, 1, 64);
        s.put(1, 0, 1, 0, 1).put(2, 0, 0, 0, 1).put(3, 0, 1, 0, 1).ticks(1);
        s.refused("a fourth", IllegalStateException.class, () -> s.x.put(0, 0, 0, 1, 0, 0));
        s.ticks(1).sender(0, 2, Script.DONE).put(4, 0, 0, 0, 1);
        s.refused("a fifth", IllegalStateException.class, () -> s.x.put(0, 0, 0, 1, 0, 0));
        s.loseAll().ticks(1);
        int[] numbers = {1, 3, 4};
        for (int k = 0; k < 3; k++) {
            s.due("in order of their numbers", s.x.unit(k, 2), numbers[k]);
        }
    }

    /** "FINISHED: it sends an ACK of it, and is closed with that result.": at once. */
    private static void closedByFinishedMakesRoom() {
        Script s = new Script("room by FINISHED", 0).file(0, 0, 0);
        s.put(1, 0, 0, 0, 2).ticks(2).deliver(0, 0).put(2, 0, 0, 1, 2).put(3, 0, 0, 2, 2);
        s.refused("a fourth", IllegalStateException.class, () -> s.x.put(0, 0, 0, 1, 0, 0));
        s.kinds(Script.ACK, Script.FINISHED).deliver(1).sender(0, 1, Script.DONE).put(4, 0, 0, 0, 1);
    }

    /** "when three senders are open": a suspended or cancelled one is open. */
    private static void suspendedAndCancelledOnesAreOpen() {
        Script s = new Script("open", 0).file(0, 0, 0).put(1, 0, 0, 0, 1).put(2, 0, 0, 0, 2).put(3, 0, 0, 0, 2);
        s.suspend(0, 1, true, true).cancel(0, 2, true).cancel(0, 3, true).suspend(0, 3, true, true);
        s.refused("a fourth", IllegalStateException.class, () -> s.x.put(0, 0, 0, 1, 0, 0));
        s.ticks(3);
        s.refused("a fourth, later", IllegalStateException.class, () -> s.x.put(0, 0, 0, 1, 0, 0));
    }

    private static void locked(Script s, int entity, int file) {
        s.refused("append", IllegalStateException.class, () -> s.x.append(entity, file, 1, 1));
        s.refused("delete", IllegalStateException.class, () -> s.x.delete(entity, file));
    }

    private static void free(Script s, int entity, int file) {
        int size = s.x.size(entity, file);
        s.due("append", s.x.append(entity, file, 1, 1), size + 1);
        s.due("delete", s.x.delete(entity, file), true);
    }

    /** "A file is LOCKED while a transaction that sends it is OPEN at its entity.": not a tick less or more. */
    private static void lockedFromPutToClosing() {
        Script s = new Script("class 1", 0).file(0, 0, 5).put(1, 0, 0, 0, 1);
        for (int i = 0; i < 4; i++) {
            locked(s, 0, 0);
            s.ticks(1);
        }
        free(s.sender(0, 1, Script.DONE), 0, 0);
        Script t = new Script("class 2, FINISHED", 0).file(0, 0, 0).put(1, 0, 0, 0, 2).ticks(2).deliver(0, 0);
        locked(t.kinds(Script.ACK, Script.FINISHED).receiver(0, 1, Script.ENDED), 0, 0);
        free(t.deliver(1).sender(0, 1, Script.DONE), 0, 0);
        Script u = new Script("class 2, FAILED", 0).file(0, 0, 0).put(1, 0, 0, 0, 2).ticks(2 + 3 * 4 - 1);
        locked(u.sender(0, 1, Script.OPEN), 0, 0);
        free(u.ticks(1).sender(0, 1, Script.FAILED), 0, 0);
    }

    /** The same with two senders of one file. */
    private static void lockedByTheLastOfTwo() {
        Script s = new Script("two senders", 0).file(0, 2, 1).put(1, 0, 2, 0, 1).ticks(2).put(2, 0, 2, 0, 1).ticks(1);
        s.sender(0, 1, Script.DONE).sender(0, 2, Script.OPEN);
        locked(s, 0, 2);
        s.ticks(1);
        locked(s, 0, 2);
        free(s.ticks(1).sender(0, 2, Script.DONE), 0, 2);
        Script t = new Script("the first is the last", 0).file(0, 2, 1).put(1, 0, 2, 0, 1).put(2, 0, 2, 0, 1);
        t.suspend(0, 1, true, true).ticks(3).sender(0, 2, Script.DONE);
        locked(t, 0, 2);
        free(t.suspend(0, 1, false, true).ticks(3).sender(0, 1, Script.DONE), 0, 2);
    }

    /** The same for one that is suspended, and for one that is cancelled and sends its END in the next tick. */
    private static void lockedWhileSuspendedOrCancelled() {
        Script s = new Script("suspended", 0).file(0, 0, 1).put(1, 0, 0, 0, 1).suspend(0, 1, true, true).ticks(30);
        locked(s, 0, 0);
        Script t = new Script("cancelled", 0).file(1, 0, 1).put(1, 1, 0, 0, 1).cancel(1, 1, true);
        locked(t, 1, 0);
        free(t.ticks(1).sender(1, 1, Script.CANCELLED), 1, 0);
    }

    /** The same file of the other entity, other files, and what a receiver notes are not locked. */
    private static void lockedOnlyByItsSender() {
        Script s = new Script("its sender", 0).file(0, 0, 4).file(0, 1, 1).file(1, 0, 1).file(1, 2, 1).put(1, 0, 0, 2, 2);
        s.ticks(3).deliver(0, 0).receiver(0, 1, Script.OPEN);
        free(s, 0, 1);
        free(s, 1, 0);
        free(s, 1, 2);
        locked(s, 0, 0);
    }

    /** The same for a file without bytes, which is sent as METADATA and END. */
    private static void anEmptyFileIsLockedToo() {
        Script s = new Script("empty", 0).file(1, 5, 0).put(1, 1, 5, 0, 1);
        locked(s, 1, 5);
        s.ticks(1);
        locked(s, 1, 5);
        free(s.ticks(1), 1, 5);
    }
}
