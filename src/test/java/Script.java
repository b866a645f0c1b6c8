/** One object and short names for runs of calls on it. */
final class Script {
    static final int METADATA = 1;
    static final int DATA = 2;
    static final int END = 3;
    static final int FINISHED = 4;
    static final int ACK = 5;
    static final int NAK = 6;
    static final int DONE = 1;
    static final int CANCELLED = 2;
    static final int FAILED = 3;
    static final int REJECTED = 4;
    static final int OPEN = 5;
    static final int ENDED = 6;

    final Counted x;
    private final String name;

    Script(String name, int timer) {
        this.name = name;
        x = new Counted(timer);
    }

    void due(String call, Object got, Object due) {
        Check.same(name + ": " + call, got, due);
    }

    /** A file with the bytes 1, 2, .. size. */
    Script file(int entity, int file, int size) {
        due("create", x.create(entity, file), true);
        for (int there = 0; there < size; ) {
            int n = Math.min(8, size - there);
            long w = 0;
            for (int i = n; i >= 1; i--) {
                w = w << 8 | there + i;
            }
            there += n;
            due("append", x.append(entity, file, n, w), there);
        }
        return this;
    }

    Script ticks(int n) {
        for (int i = 0; i < n; i++) {
            x.tick();
        }
        return this;
    }

    /** Opens a sender without a request. */
    Script put(int due, int entity, int file, int dest, int kind) {
        due("put", x.put(entity, file, dest, kind, 0, 0), due);
        return this;
    }

    Script deliver(int... units) {
        for (int k : units) {
            due("deliver(" + k + ")", x.deliver(k), true);
        }
        return this;
    }

    Script lose(int... units) {
        for (int k : units) {
            due("lose(" + k + ")", x.lose(k), true);
        }
        return this;
    }

    Script copy(int... units) {
        for (int k : units) {
            due("copy(" + k + ")", x.copy(k), true);
        }
        return this;
    }

    Script spoil(int k, int bits) {
        due("spoil(" + k + ", " + bits + ")", x.spoil(k, bits), true);
        return this;
    }

    Script cancel(int entity, int number, boolean due) {
        due("cancel(" + entity + ", " + number + ")", x.cancel(entity, number), due);
        return this;
    }

    Script suspend(int entity, int number, boolean on, boolean due) {
        due("suspend(" + entity + ", " + number + ", " + on + ")", x.suspend(entity, number, on), due);
        return this;
    }

    Script deliverAll() {
        while (x.deliver(0)) {
            // Counted ends a run that never ends.
        }
        return this;
    }

    Script loseAll() {
        while (x.lose(0)) {
            // Counted ends a run that never ends.
        }
        return this;
    }

    /** Loses all but the first n units. */
    Script loseBehind(int n) {
        while (x.lose(n)) {
            // Counted ends a run that never ends.
        }
        return this;
    }

    /** Copies unit k until 24 are under way. */
    Script fill(int k) {
        for (int count = x.units(); count < 24; count++) {
            copy(k);
        }
        due("units()", x.units(), 24);
        return this;
    }

    /** The kinds of all units under way are these. */
    Script kinds(int... kinds) {
        due("units()", x.units(), kinds.length);
        for (int k = 0; k < kinds.length; k++) {
            due("unit(" + k + ", 0)", x.unit(k, 0), kinds[k]);
        }
        return this;
    }

    /** Ticks n times, in which nothing is sent; then once more, in which units of these kinds are. */
    Script quietThen(int n, int... kinds) {
        loseAll();
        for (int i = 1; i <= n; i++) {
            x.tick();
            due("units() in quiet tick " + i, x.units(), 0);
        }
        x.tick();
        return kinds(kinds);
    }

    Script sender(int entity, int number, int due) {
        due("sender(" + entity + ", " + number + ")", x.sender(entity, number), due);
        return this;
    }

    Script receiver(int entity, int number, int due) {
        due("receiver(" + entity + ", " + number + ")", x.receiver(entity, number), due);
        return this;
    }

    Script request(int entity, int number, int due) {
        due("request(" + entity + ", " + number + ")", x.request(entity, number), due);
        return this;
    }

    Script detail(int k, int due) {
        due("unit(" + k + ", 3)", x.unit(k, 3), due);
        return this;
    }

    Script refused(String call, Class<?> due, Check.Call made) {
        Check.refused(name + ": " + call, due, made);
        return this;
    }

    Script bytes(int entity, int file, int... due) {
        size(entity, file, due.length);
        for (int i = 0; i < due.length; i++) {
            due("at(" + entity + ", " + file + ", " + i + ")", x.at(entity, file, i), due[i]);
        }
        return this;
    }

    Script size(int entity, int file, int due) {
        due("size(" + entity + ", " + file + ")", x.size(entity, file), due);
        return this;
    }
}
