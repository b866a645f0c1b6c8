import java.util.NoSuchElementException;

/** Promises 1 to 6 and the terms of files: a test for each sentence that names an edge, which stands above it. */
final class StoreEdgesTest {
    private static final int[][] NO_FILES = {
        {-1, 0}, {2, 0}, {0, -1}, {0, 6}, {1, -1}, {1, 6}, {-1, -1}, {2, 6},
        {Integer.MIN_VALUE, 0}, {Integer.MAX_VALUE, 0}, {0, Integer.MIN_VALUE}, {1, Integer.MAX_VALUE},
    };
    private static final int[] NO_COUNTS = {0, 9, -1, 16, 256, 257, Integer.MIN_VALUE, Integer.MAX_VALUE};

    private StoreEdgesTest() {
    }

    public static void main(String[] args) {
        nothingAtFirst();
        objectsAreApart();
        createMakesEachFileEmpty();
        createRefusesNoFile();
        createRefusesOneThatIsThere();
        createdAgainHasNoOldBytes();
        appendTakesOneToEightBytes();
        appendTakesTheLowestFirst();
        appendRefusesOtherCounts();
        appendRefusesNoFile();
        appendRefusesOneNotThere();
        appendRefusesALockedOne();
        appendFillsUpTo64();
        appendBeyond64ChangesNothing();
        deleteRefusesNoFile();
        deleteRefusesOneNotThere();
        deleteRefusesALockedOne();
        deleteTakesEmptyAndFullOnes();
        sizeOfNoFile();
        sizeFromNoneTo64();
        atTellsFirstToLast();
        atTellsWholeBytes();
        atRefusesNoFile();
        atRefusesNoSuchByte();
        atOfAnEmptyOne();
        Check.end();
    }

    /** "No files, no transactions." */
    private static void nothingAtFirst() {
        for (int timer : new int[] {0, -1, Integer.MIN_VALUE, Integer.MAX_VALUE}) {
            Script s = new Script("nothing at first", timer);
            for (int entity = 0; entity < 2; entity++) {
                for (int file = 0; file < 6; file++) {
                    s.size(entity, file, -1);
                }
                for (int number = -1; number <= 2; number++) {
                    s.sender(entity, number, 0).receiver(entity, number, 0).request(entity, number, 0);
                }
            }
            s.kinds().ticks(50).kinds();
        }
    }

    /** "No files, no transactions.": nor those of another object. */
    private static void objectsAreApart() {
        Script s = new Script("one object", 0).file(0, 0, 3).put(1, 0, 0, 0, 1).ticks(1);
        new Script("another", 0).size(0, 0, -1).sender(0, 1, 0).kinds().due("tick()", new Counted(0).tick(), 1);
        s.size(0, 0, 3).sender(0, 1, Script.OPEN).kinds(Script.METADATA);
    }

    /** "A file of an entity is made, without bytes: true"; "ENTITIES 0 and 1 have FILES 0 .. 5 each". */
    private static void createMakesEachFileEmpty() {
        Script s = new Script("create", 0);
        for (int entity = 0; entity < 2; entity++) {
            for (int file = 0; file < 6; file++) {
                s.size(entity, file, -1).due("create", s.x.create(entity, file), true);
                s.size(entity, file, 0);
            }
        }
    }

    /** "false when there is no such entity or file". */
    private static void createRefusesNoFile() {
        Script s = new Script("create no file", 0);
        for (int[] no : NO_FILES) {
            s.due("create(" + no[0] + ", " + no[1] + ")", s.x.create(no[0], no[1]), false);
        }
        for (int file = 0; file < 6; file++) {
            s.size(0, file, -1).size(1, file, -1);
        }
    }

    /** "or it is there": empty, with bytes, full, and locked. */
    private static void createRefusesOneThatIsThere() {
        Script s = new Script("create again", 0).file(0, 0, 0).file(0, 1, 1).file(0, 5, 64).file(1, 2, 3).put(1, 1, 2, 0, 1);
        int[][] there = {{0, 0, 0}, {0, 1, 1}, {0, 5, 64}, {1, 2, 3}};
        for (int[] one : there) {
            s.due("create", s.x.create(one[0], one[1]), false);
            s.size(one[0], one[1], one[2]);
        }
    }

    /** "A file of an entity is made, without bytes": also where one was deleted. */
    private static void createdAgainHasNoOldBytes() {
        Script s = new Script("created again", 0).file(0, 2, 9);
        s.due("delete", s.x.delete(0, 2), true);
        s.due("create", s.x.create(0, 2), true);
        s.size(0, 2, 0).refused("at", IndexOutOfBoundsException.class, () -> s.x.at(0, 2, 0));
        s.due("append", s.x.append(0, 2, 1, 77), 1);
        s.bytes(0, 2, 77);
    }

    /** "The n (1 .. 8) lowest bytes of w": how many it has then. */
    private static void appendTakesOneToEightBytes() {
        for (int n = 1; n <= 8; n++) {
            Script s = new Script("append " + n, 0).file(1, 5, 0);
            s.due("append", s.x.append(1, 5, n, 0x0807060504030201L), n);
            s.size(1, 5, n);
            for (int i = 0; i < n; i++) {
                s.due("at " + i, s.x.at(1, 5, i), i + 1);
            }
        }
    }

    /** "the lowest first, are put behind a file's bytes": of negative numbers, too. */
    private static void appendTakesTheLowestFirst() {
        Script s = new Script("the lowest first", 0).file(0, 0, 0);
        s.due("append", s.x.append(0, 0, 2, 0xffffffffffff0100L), 2);
        s.due("append", s.x.append(0, 0, 8, Long.MIN_VALUE), 10);
        s.due("append", s.x.append(0, 0, 1, 0x1ffL), 11);
        s.due("append", s.x.append(0, 0, 8, Long.MAX_VALUE), 19);
        s.due("append", s.x.append(0, 0, 5, 0x0102030405L), 24);
        s.bytes(0, 0, 0, 1, 0, 0, 0, 0, 0, 0, 0, 128, 255, 255, 255, 255, 255, 255, 255, 255, 127, 5, 4, 3, 2, 1);
    }

    /** "IllegalArgumentException when .. n is not so": before it is asked for the file, the lock and the room. */
    private static void appendRefusesOtherCounts() {
        Script s = new Script("append no such count", 0).file(0, 0, 64).file(0, 1, 1).file(0, 3, 5).put(1, 0, 1, 0, 1);
        for (int n : NO_COUNTS) {
            for (int file = 0; file < 4; file++) {
                int to = file;
                s.refused(n + " to " + to, IllegalArgumentException.class, () -> s.x.append(0, to, n, 1));
            }
        }
        s.size(0, 0, 64).size(0, 1, 1).size(0, 2, -1).size(0, 3, 5);
    }

    /** "IllegalArgumentException when there is no such entity or file". */
    private static void appendRefusesNoFile() {
        Script s = new Script("append to no file", 0).file(0, 0, 1).file(1, 5, 1);
        for (int[] no : NO_FILES) {
            s.refused("append", IllegalArgumentException.class, () -> s.x.append(no[0], no[1], 1, 1));
            s.refused("append of 9", IllegalArgumentException.class, () -> s.x.append(no[0], no[1], 9, 1));
        }
        s.size(0, 0, 1).size(1, 5, 1);
    }

    /** "NoSuchElementException when it is not there": never, no more, or only at the other entity. */
    private static void appendRefusesOneNotThere() {
        Script s = new Script("append to none", 0).file(1, 0, 1).file(0, 4, 2);
        s.refused("never", NoSuchElementException.class, () -> s.x.append(0, 5, 1, 1));
        s.refused("at the other", NoSuchElementException.class, () -> s.x.append(0, 0, 8, 1));
        s.due("delete", s.x.delete(0, 4), true);
        s.refused("no more", NoSuchElementException.class, () -> s.x.append(0, 4, 1, 1));
        s.size(0, 5, -1).size(0, 0, -1).size(0, 4, -1);
    }

    /** "IllegalStateException when it is locked": from put until the sender is closed. */
    private static void appendRefusesALockedOne() {
        Script s = new Script("append to a locked one", 0).file(0, 3, 2).file(1, 3, 2).put(1, 0, 3, 0, 1);
        for (int ticks = 0; ticks < 3; ticks++) {
            s.refused("behind tick " + ticks, IllegalStateException.class, () -> s.x.append(0, 3, 1, 1)).ticks(1);
        }
        s.sender(0, 1, Script.DONE).size(0, 3, 2);
        s.due("append to the other's", s.x.append(1, 3, 1, 1), 3);
        s.due("append when it is closed", s.x.append(0, 3, 1, 9), 3);
        s.bytes(0, 3, 1, 2, 9);
    }

    /** "or have 0 .. 64 BYTES": each count fits that leads to 64 at most. */
    private static void appendFillsUpTo64() {
        for (int n = 1; n <= 8; n++) {
            Script s = new Script("fill with " + n, 0).file(0, 0, 64 - n);
            s.due("append", s.x.append(0, 0, n, 0x5857565554535251L), 64);
            s.size(0, 0, 64).due("byte 63", s.x.at(0, 0, 63), 0x50 + n);
            s.due("byte before", s.x.at(0, 0, 63 - n), 64 - n);
        }
    }

    /** "or would have more than 64.": and keeps what it has. */
    private static void appendBeyond64ChangesNothing() {
        for (int n = 1; n <= 8; n++) {
            int count = n;
            Script s = new Script("65 with " + n, 0).file(0, 0, 65 - n).file(0, 1, 64);
            s.refused("append", IllegalStateException.class, () -> s.x.append(0, 0, count, -1));
            s.refused("append to 64", IllegalStateException.class, () -> s.x.append(0, 1, count, -1));
            s.size(0, 0, 65 - n).due("last", s.x.at(0, 0, 64 - n), 65 - n);
            s.size(0, 1, 64).due("last", s.x.at(0, 1, 63), 64);
            if (n > 1) {
                s.due("one fewer fits", s.x.append(0, 0, n - 1, 0), 64);
            }
        }
    }

    /** "NoSuchElementException when there is no such entity or file". */
    private static void deleteRefusesNoFile() {
        Script s = new Script("delete no file", 0).file(0, 0, 1).file(1, 5, 1);
        for (int[] no : NO_FILES) {
            s.refused("delete", NoSuchElementException.class, () -> s.x.delete(no[0], no[1]));
        }
        s.size(0, 0, 1).size(1, 5, 1);
    }

    /** "or it is not there": never, twice, or only at the other entity. */
    private static void deleteRefusesOneNotThere() {
        Script s = new Script("delete none", 0).file(0, 0, 1);
        s.refused("never", NoSuchElementException.class, () -> s.x.delete(0, 1));
        s.refused("at the other", NoSuchElementException.class, () -> s.x.delete(1, 0));
        s.due("delete", s.x.delete(0, 0), true);
        s.refused("twice", NoSuchElementException.class, () -> s.x.delete(0, 0));
    }

    /** "IllegalStateException when it is locked." */
    private static void deleteRefusesALockedOne() {
        Script s = new Script("delete a locked one", 0).file(0, 0, 0).file(1, 0, 0).file(0, 1, 0).put(1, 0, 0, 5, 1);
        for (int ticks = 0; ticks < 2; ticks++) {
            s.refused("behind tick " + ticks, IllegalStateException.class, () -> s.x.delete(0, 0)).size(0, 0, 0).ticks(1);
        }
        s.due("another one", s.x.delete(0, 1), true);
        s.due("the other's", s.x.delete(1, 0), true);
        s.due("when the sender is closed", s.x.delete(0, 0), true);
        s.size(0, 0, -1);
    }

    /** "A file is there no more: true." */
    private static void deleteTakesEmptyAndFullOnes() {
        Script s = new Script("delete", 0).file(0, 0, 0).file(0, 5, 64).file(1, 5, 64);
        s.due("an empty one", s.x.delete(0, 0), true);
        s.due("a full one", s.x.delete(0, 5), true);
        s.size(0, 0, -1).size(0, 5, -1).size(1, 5, 64);
    }

    /** "-1 when there is no such entity or file". */
    private static void sizeOfNoFile() {
        Script s = new Script("size", 0);
        for (int entity = 0; entity < 2; entity++) {
            for (int file = 0; file < 6; file++) {
                s.file(entity, file, 1);
            }
        }
        for (int[] no : NO_FILES) {
            s.size(no[0], no[1], -1);
        }
    }

    /** "How many bytes a file has; -1 when .. it is not there." */
    private static void sizeFromNoneTo64() {
        Script s = new Script("size", 0).size(0, 3, -1).file(0, 3, 0).size(0, 3, 0).size(1, 3, -1);
        for (int size = 1; size <= 64; size++) {
            s.due("append", s.x.append(0, 3, 1, 0), size);
            s.size(0, 3, size);
        }
        s.due("delete", s.x.delete(0, 3), true);
        s.size(0, 3, -1);
    }

    /** "Byte i of a file.": of a full one, too. */
    private static void atTellsFirstToLast() {
        Script s = new Script("at", 0).file(1, 0, 64);
        for (int i = 0; i < 64; i++) {
            s.due("at " + i, s.x.at(1, 0, i), i + 1);
        }
    }

    /** "Byte i of a file.": a byte is 0 .. 255. */
    private static void atTellsWholeBytes() {
        Script s = new Script("bytes", 0).file(0, 0, 0);
        s.due("append", s.x.append(0, 0, 6, 0xff_81_80_7f_01_00L), 6);
        s.bytes(0, 0, 0, 1, 127, 128, 129, 255);
    }

    /** "NoSuchElementException when there is no such entity or file, or it is not there": whatever i is. */
    private static void atRefusesNoFile() {
        Script s = new Script("at of no file", 0).file(0, 0, 64).file(1, 5, 64).file(0, 1, 5);
        s.due("delete", s.x.delete(0, 1), true);
        for (int i : new int[] {0, -1, 64}) {
            for (int[] no : NO_FILES) {
                s.refused("at", NoSuchElementException.class, () -> s.x.at(no[0], no[1], i));
            }
            s.refused("never", NoSuchElementException.class, () -> s.x.at(0, 5, i));
            s.refused("at the other", NoSuchElementException.class, () -> s.x.at(1, 0, i));
            s.refused("no more", NoSuchElementException.class, () -> s.x.at(0, 1, i));
        }
    }

    /** "IndexOutOfBoundsException when it has no byte i." */
    private static void atRefusesNoSuchByte() {
        for (int size : new int[] {1, 7, 63, 64}) {
            Script s = new Script("at of " + size, 0).file(0, 2, size);
            s.due("first", s.x.at(0, 2, 0), 1);
            s.due("last", s.x.at(0, 2, size - 1), size);
            for (int i : new int[] {-1, size, size + 1, 65, -64, Integer.MIN_VALUE, Integer.MAX_VALUE}) {
                s.refused("at " + i, IndexOutOfBoundsException.class, () -> s.x.at(0, 2, i));
            }
        }
    }

    /** "IndexOutOfBoundsException when it has no byte i.": an empty one has none. */
    private static void atOfAnEmptyOne() {
        Script s = new Script("at of an empty one", 0).file(1, 4, 0);
        for (int i : new int[] {0, -1, 1, 63, 64}) {
            s.refused("at " + i, IndexOutOfBoundsException.class, () -> s.x.at(1, 4, i));
        }
    }
}
