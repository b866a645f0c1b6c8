/** One object and short names for runs of calls on it. */
final class Script {
    static final int METADATA = 1;
    static final int DATA = 2;
    static final int END = 3;
    static final int FINISHED = 4;
    static final int ACK = 5;
    static final int NAK = 6;
    static final int DONE = 1;
    static final int CANCELLED = 2;
    static final int FAILED = 3;
    static final int REJECTED = 4;
    static final int OPEN = 5;
    static final int ENDED = 6;

    final FileDelivery x;
    private final String name;

    Script(String name, int timer) {
        this.name = name;
        x = new FileDelivery(timer);
    }

    void due(String call, Object got, Object due) {
        Check.same(name + ": " + call, got, due);
    }

    /** A file with the bytes 1, 2, .. size. */
    Script file(int entity, int file, int size) {
        due("create", x.create(entity, file), true);
        for (int i = 0; i < size; i++) {
            due("append", x.append(entity, file, 1, i + 1), i + 1);
        }
        return this;
    }

    Script ticks(int n) {
        for (int i = 0; i < n; i++) {
            x.tick();
        }
        return this;
    }

    Script deliverAll() {
        for (int i = 0; i < 1000 && x.units() > 0; i++) {
            x.deliver(0);
        }
        return this;
    }

    Script loseAll() {
        while (x.units() > 0) {
            x.lose(0);
        }
        return this;
    }

    /** The kinds of all units under way are these. */
    Script kinds(int... kinds) {
        due("units()", x.units(), kinds.length);
        for (int k = 0; k < kinds.length; k++) {
            due("unit(" + k + ", 0)", x.unit(k, 0), kinds[k]);
        }
        return this;
    }

    /** Ticks n times, in which nothing is sent; then once more, in which units of these kinds are. */
    Script quietThen(int n, int... kinds) {
        loseAll();
        for (int i = 1; i <= n; i++) {
            x.tick();
            due("units() in quiet tick " + i, x.units(), 0);
        }
        x.tick();
        return kinds(kinds);
    }

    Script sender(int entity, int number, int due) {
        due("sender(" + entity + ", " + number + ")", x.sender(entity, number), due);
        return this;
    }

    Script receiver(int entity, int number, int due) {
        due("receiver(" + entity + ", " + number + ")", x.receiver(entity, number), due);
        return this;
    }

    Script request(int entity, int number, int due) {
        due("request(" + entity + ", " + number + ")", x.request(entity, number), due);
        return this;
    }

    Script detail(int k, int due) {
        due("unit(" + k + ", 3)", x.unit(k, 3), due);
        return this;
    }

    Script size(int entity, int file, int due) {
        due("size(" + entity + ", " + file + ")", x.size(entity, file), due);
        return this;
    }
}
