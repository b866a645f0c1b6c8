/**
 * The class with each call counted: nothing is promised about an object after its 512th call, so a
 * test that goes further tests nothing, and is stopped.
 */
final class Counted {
    static final int MOST_CALLS = 512;

    private final FileDelivery inner;
    private int calls;

    Counted(int timer) {
        inner = new FileDelivery(timer);
    }

    int callsLeft() {
        return MOST_CALLS - calls;
    }

    private FileDelivery next() {
        calls++;
        if (calls > MOST_CALLS) {
            throw new AssertionError("the test uses one object for more than 512 calls");
        }
        return inner;
    }

    boolean create(int entity, int file) {
        return next().create(entity, file);
    }

    int append(int entity, int file, int n, long w) {
        return next().append(entity, file, n, w);
    }

    boolean delete(int entity, int file) {
        return next().delete(entity, file);
    }

    int size(int entity, int file) {
        return next().size(entity, file);
    }

    int at(int entity, int file, int i) {
        return next().at(entity, file, i);
    }

    int put(int entity, int file, int dest, int kind, int request, int other) {
        return next().put(entity, file, dest, kind, request, other);
    }

    boolean cancel(int entity, int number) {
        return next().cancel(entity, number);
    }

    boolean suspend(int entity, int number, boolean on) {
        return next().suspend(entity, number, on);
    }

    int tick() {
        return next().tick();
    }

    boolean deliver(int k) {
        return next().deliver(k);
    }

    boolean lose(int k) {
        return next().lose(k);
    }

    boolean copy(int k) {
        return next().copy(k);
    }

    boolean spoil(int k, int bits) {
        return next().spoil(k, bits);
    }

    int units() {
        return next().units();
    }

    int unit(int k, int w) {
        return next().unit(k, w);
    }

    int sender(int entity, int number) {
        return next().sender(entity, number);
    }

    int receiver(int entity, int number) {
        return next().receiver(entity, number);
    }

    int request(int entity, int number) {
        return next().request(entity, number);
    }
}
