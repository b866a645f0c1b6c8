import java.util.NoSuchElementException;

/** Promises 1 to 6: a new object, create, append, delete, size, at. */
final class StoreTest {
    private static final int[][] NO_FILES = {
        {-1, 0}, {2, 0}, {0, -1}, {0, 6}, {1, 6}, {Integer.MIN_VALUE, 0}, {0, Integer.MAX_VALUE},
    };

    private StoreTest() {
    }

    public static void main(String[] args) {
        newObject();
        create();
        append();
        appendWrong();
        delete();
        sizeAndAt();
        Check.end();
    }

    private static void newObject() {
        for (int timer : new int[] {0, 7, 8, -1, Integer.MIN_VALUE, Integer.MAX_VALUE}) {
            Script s = new Script("new " + timer, timer);
            for (int entity = 0; entity < 2; entity++) {
                for (int file = 0; file < 6; file++) {
                    s.size(entity, file, -1);
                }
                s.sender(entity, 1, 0).receiver(entity, 1, 0).request(entity, 1, 0);
            }
            s.kinds();
            s.due("tick()", s.x.tick(), 1);
        }
        timerIsFourAndThreeBits();
    }

    /** T is seen by the tick in which the second END of an empty file is sent. */
    private static void timerIsFourAndThreeBits() {
        int[][] rows = {{0, 4}, {1, 5}, {3, 7}, {7, 11}, {8, 4}, {-1, 11}, {-8, 4}, {Integer.MIN_VALUE, 4}, {Integer.MAX_VALUE, 11}};
        for (int[] row : rows) {
            Script s = new Script("T of " + row[0], row[0]).file(0, 0, 0);
            s.x.put(0, 0, 0, 2, 0, 0);
            s.ticks(2).kinds(Script.METADATA, Script.END);
            s.quietThen(row[1] - 1, Script.END);
        }
    }

    private static void create() {
        Script s = new Script("create", 0);
        for (int entity = 0; entity < 2; entity++) {
            for (int file = 0; file < 6; file++) {
                s.due("create", s.x.create(entity, file), true);
                s.due("create again", s.x.create(entity, file), false);
                s.size(entity, file, 0);
            }
        }
        for (int[] no : NO_FILES) {
            s.due("create(" + no[0] + ", " + no[1] + ")", s.x.create(no[0], no[1]), false);
        }
        s.x.append(0, 3, 2, 7);
        s.due("create one with bytes", s.x.create(0, 3), false);
        s.size(0, 3, 2);
        s.x.delete(0, 3);
        s.due("create a deleted one", s.x.create(0, 3), true);
        s.size(0, 3, 0);
    }

    private static void append() {
        Script s = new Script("append", 0).file(1, 5, 0);
        s.due("append 3", s.x.append(1, 5, 3, 0x7f80ff01L), 3);
        s.due("byte 0", s.x.at(1, 5, 0), 1);
        s.due("byte 1", s.x.at(1, 5, 1), 255);
        s.due("byte 2", s.x.at(1, 5, 2), 128);
        s.due("append 8", s.x.append(1, 5, 8, -2L), 11);
        s.due("byte 3", s.x.at(1, 5, 3), 254);
        s.due("byte 10", s.x.at(1, 5, 10), 255);
        s.due("append 1", s.x.append(1, 5, 1, 256L), 12);
        s.due("byte 11", s.x.at(1, 5, 11), 0);
        for (int size = 20; size <= 60; size += 8) {
            s.due("append to " + size, s.x.append(1, 5, 8, 0x0807060504030201L), size);
        }
        Check.refused("append beyond 64", IllegalStateException.class, () -> s.x.append(1, 5, 5, 1));
        s.size(1, 5, 60);
        s.due("append to 64", s.x.append(1, 5, 4, 0xddccbbaa99L), 64);
        s.due("byte 63", s.x.at(1, 5, 63), 0xcc);
        Check.refused("append to a full one", IllegalStateException.class, () -> s.x.append(1, 5, 1, 1));
        s.size(1, 5, 64).size(0, 5, -1);
    }

    private static void appendWrong() {
        Script s = new Script("append wrong", 0).file(0, 0, 64);
        for (int[] no : NO_FILES) {
            Check.refused("append to no file", IllegalArgumentException.class, () -> s.x.append(no[0], no[1], 1, 1));
        }
        for (int n : new int[] {0, 9, -1, Integer.MIN_VALUE, Integer.MAX_VALUE}) {
            Check.refused("append " + n, IllegalArgumentException.class, () -> s.x.append(0, 0, n, 1));
            Check.refused("append " + n + " to none", IllegalArgumentException.class, () -> s.x.append(0, 1, n, 1));
        }
        Check.refused("append to none", NoSuchElementException.class, () -> s.x.append(0, 1, 1, 1));
        s.file(0, 2, 4);
        s.x.put(0, 2, 0, 1, 0, 0);
        Check.refused("append to a locked one", IllegalStateException.class, () -> s.x.append(0, 2, 1, 1));
        s.size(0, 2, 4);
        s.ticks(3).sender(0, 1, Script.DONE);
        s.due("append when the sender is closed", s.x.append(0, 2, 1, 1), 5);
    }

    private static void delete() {
        Script s = new Script("delete", 0).file(0, 4, 3).file(1, 4, 2);
        for (int[] no : NO_FILES) {
            Check.refused("delete no file", NoSuchElementException.class, () -> s.x.delete(no[0], no[1]));
        }
        Check.refused("delete none", NoSuchElementException.class, () -> s.x.delete(0, 3));
        s.x.put(0, 4, 0, 1, 0, 0);
        Check.refused("delete a locked one", IllegalStateException.class, () -> s.x.delete(0, 4));
        s.size(0, 4, 3);
        s.due("the other entity's is not locked", s.x.delete(1, 4), true);
        s.ticks(3).sender(0, 1, Script.DONE);
        s.due("delete", s.x.delete(0, 4), true);
        s.size(0, 4, -1);
        Check.refused("delete again", NoSuchElementException.class, () -> s.x.delete(0, 4));
    }

    private static void sizeAndAt() {
        Script s = new Script("size and at", 0).file(1, 2, 5);
        s.size(1, 2, 5).size(0, 2, -1);
        for (int[] no : NO_FILES) {
            s.size(no[0], no[1], -1);
            Check.refused("at of no file", NoSuchElementException.class, () -> s.x.at(no[0], no[1], 0));
        }
        Check.refused("at of none", NoSuchElementException.class, () -> s.x.at(0, 2, -1));
        s.due("first", s.x.at(1, 2, 0), 1);
        s.due("last", s.x.at(1, 2, 4), 5);
        for (int i : new int[] {-1, 5, 64, Integer.MIN_VALUE, Integer.MAX_VALUE}) {
            Check.refused("at " + i, IndexOutOfBoundsException.class, () -> s.x.at(1, 2, i));
        }
        s.file(1, 3, 0);
        Check.refused("at of an empty one", IndexOutOfBoundsException.class, () -> s.x.at(1, 3, 0));
    }
}
