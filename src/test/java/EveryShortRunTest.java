/**
 * Promises 8 to 19 on every run of a few steps, from a few beginnings: random runs seldom try each
 * order of cancelling, suspending, losing and waiting at the same place.
 */
final class EveryShortRunTest {
    private static final int STEPS = 5;
    private static final int KINDS_OF_STEP = 9;
    private static final int T = 4;
    private static final int[] SIZES = {0, 5, 12};

    private EveryShortRunTest() {
    }

    public static void main(String[] args) {
        for (int kind = 1; kind <= 2; kind++) {
            for (int size : SIZES) {
                everyRunFrom(kind, size, 0);
                everyRunFrom(kind, size, 2 + (size + 3) / 4);
            }
        }
        Check.end();
    }

    private static void everyRunFrom(int kind, int size, int ticksBefore) {
        int runs = 1;
        for (int steps = 0; steps <= STEPS; steps++) {
            for (int run = 0; run < runs; run++) {
                new Pair(kind, size, ticksBefore).go(run, steps);
            }
            runs *= KINDS_OF_STEP;
        }
    }

    private static final class Pair {
        private final Counted real = new Counted(0);
        private final Model model = new Model(0);
        private final StringBuilder told = new StringBuilder();
        private boolean suspended;

        Pair(int kind, int size, int ticksBefore) {
            told.append("class ").append(kind).append(", size ").append(size);
            told.append(", ticks ").append(ticksBefore).append(':');
            real.create(0, 0);
            model.create(0, 0);
            for (int i = 0; i < size; i++) {
                real.append(0, 0, 1, 250 + i);
                model.append(0, 0, 1, 250 + i);
            }
            real.put(0, 0, 1, kind, 2, 2);
            model.put(0, 0, 1, kind, 2, 2);
            tick(ticksBefore);
        }

        void go(int run, int steps) {
            int left = run;
            for (int i = 0; i < steps; i++) {
                step(left % KINDS_OF_STEP);
                left /= KINDS_OF_STEP;
            }
            compare();
        }

        private void tick(int times) {
            for (int i = 0; i < times; i++) {
                same("tick", real.tick(), model.tick());
            }
        }

        private void step(int which) {
            int last = model.units() - 1;
            switch (which) {
                case 0:
                    told.append(" tick");
                    tick(1);
                    break;
                case 1:
                    told.append(" T-1 ticks");
                    tick(T - 1);
                    break;
                case 2:
                    told.append(" 4*T ticks");
                    tick(4 * T);
                    break;
                case 3:
                    told.append(" deliver(0)");
                    same("deliver(0)", real.deliver(0), model.deliver(0));
                    break;
                case 4:
                    told.append(" deliver(last)");
                    same("deliver(last)", real.deliver(last), model.deliver(last));
                    break;
                case 5:
                    told.append(" lose(0)");
                    same("lose(0)", real.lose(0), model.lose(0));
                    break;
                case 6:
                    told.append(" copy(last)");
                    same("copy(last)", real.copy(last), model.copy(last));
                    break;
                case 7:
                    told.append(" cancel");
                    same("cancel", real.cancel(0, 1), model.cancel(0, 1));
                    break;
                default:
                    suspended = !suspended;
                    told.append(suspended ? " suspend" : " go on");
                    same("suspend", real.suspend(0, 1, suspended), model.suspend(0, 1, suspended));
                    break;
            }
        }

        private void compare() {
            same("sender", real.sender(0, 1), model.sender(0, 1));
            same("receiver", real.receiver(0, 1), model.receiver(0, 1));
            same("request", real.request(0, 1), model.request(0, 1));
            same("size of DEST", real.size(1, 1), model.size(1, 1));
            same("size of OTHER", real.size(1, 2), model.size(1, 2));
            same("units", real.units(), model.units());
            for (int k = 0; k < model.units(); k++) {
                for (int w = 0; w <= 3; w++) {
                    same("unit", real.unit(k, w), model.unit(k, w));
                }
            }
        }

        private void same(String call, Object got, Object due) {
            Check.same(due.equals(got) ? call : told + " / " + call, got, due);
        }
    }
}
