import java.util.Random;

/**
 * Promises 1 to 19 on random runs of 512 calls: the class and the plain Model are asked the same,
 * and between the calls that change something it is compared what can be seen of both.
 */
final class ModelTest {
    private static final int RUNS = 4000;
    /** Kept for the comparison at the end of a run. */
    private static final int LAST_CALLS = 64;

    private ModelTest() {
    }

    public static void main(String[] args) {
        for (int seed = 1; seed <= RUNS; seed++) {
            new Run(seed).go();
        }
        Check.end();
    }

    private static final class Run {
        private final int seed;
        private final Random random;
        private final Counted real;
        private final Model model;
        /** How a run leans: how often it ticks, delivers, harms units, calls the user's methods, and uses wrong numbers. */
        private final int ticks;
        private final int delivers;
        private final int harms;
        private final int users;
        private final int strange;
        private final boolean inOrder;

        Run(int seed) {
            this.seed = seed;
            random = new Random(seed);
            int timer = random.nextInt(3) == 0 ? random.nextInt() : random.nextInt(3);
            real = new Counted(timer);
            model = new Model(timer);
            ticks = 1 + random.nextInt(12);
            delivers = random.nextInt(14);
            harms = random.nextInt(4);
            users = 1 + random.nextInt(5);
            strange = random.nextInt(3) == 0 ? 12 : 200;
            inOrder = random.nextBoolean();
            if (random.nextInt(3) != 0) {
                fillStores();
            }
        }

        /** Files of all sizes to begin with, so that long ones are sent and have several gaps. */
        private void fillStores() {
            for (int entity = 0; entity < 2; entity++) {
                for (int file = 0; file < 6; file += 1 + random.nextInt(2)) {
                    fill(entity, file);
                }
            }
        }

        private void fill(int entity, int file) {
            both("create", () -> real.create(entity, file), () -> model.create(entity, file));
            int size = random.nextInt(65);
            for (int left = size; left > 0; left -= 8) {
                int n = Math.min(left, 8);
                long w = random.nextLong();
                both("append", () -> real.append(entity, file, n, w), () -> model.append(entity, file, n, w));
            }
        }

        void go() {
            while (real.callsLeft() > LAST_CALLS) {
                oneCall();
                compareUnits();
                if (random.nextInt(3) == 0) {
                    int entity = random.nextInt(2);
                    compareTransaction(entity, pickNumber(entity));
                }
                if (random.nextInt(8) == 0) {
                    compareFile(pick(0, 1), pick(0, 5));
                }
            }
            compareAtLast();
        }

        private int pick(int low, int high) {
            if (random.nextInt(strange) == 0) {
                int[] odd = {low - 1, high + 1, -1, Integer.MIN_VALUE, Integer.MAX_VALUE, random.nextInt()};
                return odd[random.nextInt(odd.length)];
            }
            return low + random.nextInt(high - low + 1);
        }

        private int pickUnit() {
            int count = model.units();
            return inOrder && random.nextInt(8) != 0 ? 0 : pick(0, Math.max(0, count - 1));
        }

        private int pickNumber(int entity) {
            int given = entity == 0 || entity == 1 ? model.outs.get(entity).size() : 1;
            return pick(Math.max(1, given - 3), Math.max(1, given));
        }

        private void both(String call, Check.Call ofReal, Check.Call ofModel) {
            Check.same("run " + seed + ", " + real.callsLeft() + " calls left: " + call, Check.outcome(ofReal), Check.outcome(ofModel));
        }

        private void oneCall() {
            int lot = random.nextInt(ticks + delivers + harms + users);
            if (lot < ticks) {
                both("tick()", real::tick, model::tick);
            } else if (lot < ticks + delivers) {
                int k = pickUnit();
                both("deliver(" + k + ")", () -> real.deliver(k), () -> model.deliver(k));
            } else if (lot < ticks + delivers + harms) {
                harm();
            } else {
                use();
            }
        }

        private void harm() {
            int k = pickUnit();
            int bits = random.nextInt(4) == 0 ? random.nextInt() : 1 << random.nextInt(32);
            switch (random.nextInt(4)) {
                case 0:
                    both("copy(" + k + ")", () -> real.copy(k), () -> model.copy(k));
                    break;
                case 1:
                    both("spoil(" + k + ", " + bits + ")", () -> real.spoil(k, bits), () -> model.spoil(k, bits));
                    break;
                default:
                    both("lose(" + k + ")", () -> real.lose(k), () -> model.lose(k));
                    break;
            }
        }

        private void use() {
            int entity = pick(0, 1);
            int file = pick(0, 5);
            int number = pickNumber(entity);
            switch (random.nextInt(10)) {
                case 0:
                    both("create", () -> real.create(entity, file), () -> model.create(entity, file));
                    break;
                case 1:
                    both("delete", () -> real.delete(entity, file), () -> model.delete(entity, file));
                    break;
                case 2:
                    both("cancel", () -> real.cancel(entity, number), () -> model.cancel(entity, number));
                    break;
                case 3:
                case 4:
                    boolean on = random.nextInt(3) == 0;
                    both("suspend", () -> real.suspend(entity, number, on), () -> model.suspend(entity, number, on));
                    break;
                case 5:
                case 6:
                    int n = pick(1, 8);
                    long w = random.nextLong();
                    both("append", () -> real.append(entity, file, n, w), () -> model.append(entity, file, n, w));
                    break;
                default:
                    real.create(entity, file);
                    model.create(entity, file);
                    int dest = pick(0, 5);
                    int kind = Math.min(2, pick(0, 3) + 1);
                    int request = pick(0, 2);
                    int other = pick(0, 5);
                    both("put", () -> real.put(entity, file, dest, kind, request, other),
                        () -> model.put(entity, file, dest, kind, request, other));
                    break;
            }
        }

        private void compareUnits() {
            if (random.nextInt(2) == 0) {
                both("units()", real::units, model::units);
            }
            if (random.nextInt(3) == 0) {
                int last = model.units() - 1;
                int k = random.nextInt(3) == 0 ? random.nextInt(27) - 1 : last - random.nextInt(2);
                int w = pick(0, 3);
                both("unit(" + k + ", " + w + ")", () -> real.unit(k, w), () -> model.unit(k, w));
            }
        }

        private void compareAtLast() {
            for (int entity = 0; entity < 2; entity++) {
                for (int file = 0; file < 6; file++) {
                    compareFile(entity, file);
                }
                int given = model.outs.get(entity).size();
                for (int number = Math.max(1, given - 4); number <= given; number++) {
                    compareTransaction(entity, number);
                }
            }
        }

        private void compareFile(int entity, int file) {
            both("size(" + entity + ", " + file + ")", () -> real.size(entity, file), () -> model.size(entity, file));
            int i = pick(0, Math.max(0, model.size(entity, file) - 1));
            both("at(" + entity + ", " + file + ", " + i + ")",
                () -> real.at(entity, file, i), () -> model.at(entity, file, i));
        }

        private void compareTransaction(int entity, int number) {
            String which = "(" + entity + ", " + number + ")";
            both("sender" + which, () -> real.sender(entity, number), () -> model.sender(entity, number));
            both("receiver" + which, () -> real.receiver(entity, number), () -> model.receiver(entity, number));
            both("request" + which, () -> real.request(entity, number), () -> model.request(entity, number));
        }
    }
}
