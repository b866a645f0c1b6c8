import java.util.ArrayList;
import java.util.HashMap;
import java.util.List;
import java.util.Map;
import java.util.NoSuchElementException;

/**
 * The document's terms once more, written apart from the class and in another way (maps, lists of
 * bytes, rows of gaps, a log of each sender's ticks), so that both can be asked the same.
 */
final class Model {
    static final class Wire {
        String what;
        int from;
        int to;
        int number;
        int kind;
        int dest;
        int request;
        int other;
        int segment;
        int[] bytes = new int[0];
        int size;
        long sum;
        boolean cancelled;
        int result;
        String acks;
        boolean wantsMetadata;
        List<int[]> gaps = new ArrayList<>();
    }

    static final class Out {
        int entity;
        int number;
        int file;
        int dest;
        int kind;
        int request;
        int other;
        boolean open = true;
        int result;
        boolean suspended;
        boolean cancelled;
        List<String> plan = new ArrayList<>();
        List<String> repairs = new ArrayList<>();
        List<Integer> countedTicks = new ArrayList<>();
        int ends;
        int endTime;
        boolean acked;
        int lastTime;
    }

    static final class In {
        int sendingEntity;
        int number;
        int kind;
        boolean open = true;
        boolean ended;
        int result;
        Wire metadata;
        Map<Integer, int[]> segments = new HashMap<>();
        Wire end;
        int endTime;
        int lastTime;
        int naks;
        int nakTime;
        int finisheds;
        int finishedTime;
        int requestState;
    }

    final int t;
    int now;
    final List<Map<Integer, List<Integer>>> files = List.of(new HashMap<>(), new HashMap<>());
    final List<List<Out>> outs = List.of(new ArrayList<>(), new ArrayList<>());
    final List<List<In>> ins = List.of(new ArrayList<>(), new ArrayList<>());
    final List<Wire> wires = new ArrayList<>();

    Model(int timer) {
        t = 4 + Math.floorMod(timer, 8);
    }

    private static boolean in(int x, int low, int high) {
        return low <= x && x <= high;
    }

    private static boolean known(int entity, int file) {
        return in(entity, 0, 1) && in(file, 0, 5);
    }

    private boolean locked(int entity, int file) {
        return outs.get(entity).stream().anyMatch(o -> o.open && o.file == file);
    }

    boolean create(int entity, int file) {
        return known(entity, file) && files.get(entity).putIfAbsent(file, new ArrayList<>()) == null;
    }

    int append(int entity, int file, int n, long w) {
        if (!known(entity, file) || !in(n, 1, 8)) {
            throw new IllegalArgumentException();
        }
        List<Integer> bytes = files.get(entity).get(file);
        if (bytes == null) {
            throw new NoSuchElementException();
        }
        if (locked(entity, file) || bytes.size() + n > 64) {
            throw new IllegalStateException();
        }
        for (int i = 0; i < n; i++) {
            bytes.add((int) (w & 0xff));
            w >>>= 8;
        }
        return bytes.size();
    }

    boolean delete(int entity, int file) {
        if (!known(entity, file) || !files.get(entity).containsKey(file)) {
            throw new NoSuchElementException();
        }
        if (locked(entity, file)) {
            throw new IllegalStateException();
        }
        files.get(entity).remove(file);
        return true;
    }

    int size(int entity, int file) {
        return known(entity, file) && files.get(entity).containsKey(file) ? files.get(entity).get(file).size() : -1;
    }

    int at(int entity, int file, int i) {
        int size = size(entity, file);
        if (size < 0) {
            throw new NoSuchElementException();
        }
        if (!in(i, 0, size - 1)) {
            throw new IndexOutOfBoundsException();
        }
        return files.get(entity).get(file).get(i);
    }

    int put(int entity, int file, int dest, int kind, int request, int other) {
        if (!known(entity, file) || !in(dest, 0, 5) || !in(other, 0, 5) || !in(kind, 1, 2) || !in(request, 0, 2)) {
            throw new IllegalArgumentException();
        }
        if (!files.get(entity).containsKey(file)) {
            throw new NoSuchElementException();
        }
        if (outs.get(entity).stream().filter(o -> o.open).count() >= 3) {
            throw new IllegalStateException();
        }
        Out o = new Out();
        o.entity = entity;
        o.number = outs.get(entity).size() + 1;
        o.file = file;
        o.dest = dest;
        o.kind = kind;
        o.request = request;
        o.other = other;
        o.plan.add("m");
        for (int s = 0; 4 * s < files.get(entity).get(file).size(); s++) {
            o.plan.add("" + s);
        }
        o.plan.add("e");
        o.lastTime = now;
        outs.get(entity).add(o);
        return o.number;
    }

    private Out out(int entity, int number) {
        return in(entity, 0, 1) && in(number, 1, outs.get(entity).size()) ? outs.get(entity).get(number - 1) : null;
    }

    private In receiving(int sendingEntity, int number) {
        if (!in(sendingEntity, 0, 1)) {
            return null;
        }
        return ins.get(1 - sendingEntity).stream().filter(r -> r.number == number).findFirst().orElse(null);
    }

    boolean cancel(int entity, int number) {
        Out o = out(entity, number);
        if (o == null || !o.open || o.cancelled) {
            return false;
        }
        o.cancelled = true;
        o.plan = new ArrayList<>(List.of("e"));
        o.repairs.clear();
        o.ends = 0;
        o.acked = false;
        return true;
    }

    boolean suspend(int entity, int number, boolean on) {
        Out o = out(entity, number);
        if (o == null || !o.open || o.suspended == on) {
            return false;
        }
        o.suspended = on;
        return true;
    }

    int tick() {
        now++;
        for (int entity = 0; entity < 2; entity++) {
            for (Out o : outs.get(entity)) {
                if (o.open && !o.suspended) {
                    o.countedTicks.add(now);
                    step(o);
                }
            }
            for (In r : ins.get(entity)) {
                if (r.open) {
                    step(r);
                }
            }
        }
        return now;
    }

    private void wire(Wire w, int from, int number, int kind) {
        w.from = from;
        w.to = 1 - from;
        w.number = number;
        w.kind = kind;
        if (wires.size() < 24) {
            wires.add(w);
        }
    }

    private static long ticksAfter(Out o, int time) {
        return o.countedTicks.stream().filter(x -> x > time).count();
    }

    private void step(Out o) {
        if (!o.plan.isEmpty()) {
            sendPiece(o, o.plan.remove(0));
            if (o.plan.isEmpty() && o.kind == 1) {
                o.open = false;
                o.result = o.cancelled ? 2 : 1;
            }
            return;
        }
        if (!o.repairs.isEmpty()) {
            String first = o.repairs.stream()
                .min((a, b) -> Integer.compare(rank(a), rank(b))).get();
            o.repairs.remove(first);
            sendPiece(o, first);
            return;
        }
        if (!o.acked) {
            if (ticksAfter(o, o.endTime) >= t) {
                if (o.ends == 3) {
                    o.open = false;
                    o.result = 3;
                } else {
                    sendPiece(o, "e");
                }
            }
            return;
        }
        if (ticksAfter(o, o.lastTime) >= 4 * t) {
            o.open = false;
            o.result = 3;
        }
    }

    private static int rank(String piece) {
        return piece.equals("m") ? -1 : Integer.parseInt(piece);
    }

    private static long sum(List<Integer> bytes) {
        long sum = 0;
        for (int s = 0; s < bytes.size(); s += 4) {
            long one = 0;
            for (int i = s; i < s + 4; i++) {
                one = one * 256 + (i < bytes.size() ? bytes.get(i) : 0);
            }
            sum = (sum + one) % (1L << 32);
        }
        return sum;
    }

    private void sendPiece(Out o, String piece) {
        Wire w = new Wire();
        List<Integer> bytes = files.get(o.entity).get(o.file);
        if (piece.equals("m")) {
            w.what = "METADATA";
            w.dest = o.dest;
            w.request = o.request;
            w.other = o.other;
        } else if (piece.equals("e")) {
            w.what = "END";
            w.cancelled = o.cancelled;
            w.size = o.cancelled ? -1 : bytes.size();
            w.sum = sum(bytes);
            o.ends++;
            o.endTime = now;
        } else {
            w.what = "DATA";
            w.segment = Integer.parseInt(piece);
            int first = 4 * w.segment;
            w.bytes = bytes.subList(first, Math.min(first + 4, bytes.size())).stream().mapToInt(x -> x).toArray();
        }
        wire(w, o.entity, o.number, o.kind);
        o.lastTime = now;
    }

    private void step(In r) {
        if (r.ended) {
            if (now - r.finishedTime == t) {
                if (r.finisheds == 3) {
                    r.open = false;
                } else {
                    finish(r);
                }
            }
        } else if (r.end == null) {
            if (now - r.lastTime == 4 * t) {
                r.open = false;
                r.result = 3;
            }
        } else if (r.kind == 1) {
            if (now - r.endTime == 2 * t) {
                end(r, 3);
            }
        } else if (now - r.nakTime == t) {
            if (r.naks == 3) {
                end(r, 3);
            } else {
                nak(r);
            }
        }
    }

    private void end(In r, int result) {
        r.result = result;
        if (r.kind == 1) {
            r.open = false;
        } else {
            r.ended = true;
            finish(r);
        }
    }

    private void finish(In r) {
        Wire w = new Wire();
        w.what = "FINISHED";
        w.result = r.result;
        wire(w, 1 - r.sendingEntity, r.number, r.kind);
        r.finisheds++;
        r.finishedTime = now;
    }

    private static List<Integer> missing(In r) {
        List<Integer> missing = new ArrayList<>();
        for (int s = 0; 4 * s < r.end.size; s++) {
            if (!r.segments.containsKey(s)) {
                missing.add(s);
            }
        }
        return missing;
    }

    private void nak(In r) {
        Wire w = new Wire();
        w.what = "NAK";
        w.wantsMetadata = r.metadata == null;
        for (int s : missing(r)) {
            int[] last = w.gaps.isEmpty() ? null : w.gaps.get(w.gaps.size() - 1);
            if (last != null && last[1] == s - 1) {
                last[1] = s;
            } else {
                w.gaps.add(new int[] {s, s});
            }
        }
        while (w.gaps.size() > 3) {
            w.gaps.remove(w.gaps.size() - 1);
        }
        wire(w, 1 - r.sendingEntity, r.number, r.kind);
        r.naks++;
        r.nakTime = now;
    }

    private Wire wireAt(int k) {
        return in(k, 0, wires.size() - 1) ? wires.get(k) : null;
    }

    boolean deliver(int k) {
        Wire w = wireAt(k);
        if (w == null) {
            return false;
        }
        wires.remove(k);
        boolean forSender = w.what.equals("FINISHED") || w.what.equals("NAK") || w.what.equals("ACK") && w.acks.equals("END");
        if (forSender) {
            comeToSender(out(w.to, w.number), w);
        } else {
            comeToReceiver(w);
        }
        return true;
    }

    private void ack(String of, int from, int number) {
        Wire w = new Wire();
        w.what = "ACK";
        w.acks = of;
        wire(w, from, number, 2);
    }

    private void comeToSender(Out o, Wire w) {
        if (o == null || o.kind == 1) {
            return;
        }
        if (w.what.equals("FINISHED")) {
            ack("FINISHED", o.entity, o.number);
            if (o.open) {
                o.open = false;
                o.result = w.result;
            }
            return;
        }
        if (!o.open) {
            return;
        }
        o.lastTime = now;
        if (w.what.equals("ACK") && o.ends > 0) {
            o.acked = true;
        }
        if (w.what.equals("NAK") && o.ends > 0 && !o.cancelled) {
            if (w.wantsMetadata) {
                addOnce(o.repairs, "m");
            }
            for (int[] gap : w.gaps) {
                for (int s = gap[0]; s <= gap[1]; s++) {
                    addOnce(o.repairs, "" + s);
                }
            }
        }
    }

    private static void addOnce(List<String> list, String piece) {
        if (!list.contains(piece)) {
            list.add(piece);
        }
    }

    private void comeToReceiver(Wire w) {
        In r = receiving(w.from, w.number);
        if (r == null) {
            if (w.what.equals("ACK") || ins.get(w.to).stream().filter(x -> x.open).count() >= 3) {
                return;
            }
            r = new In();
            r.sendingEntity = w.from;
            r.number = w.number;
            r.kind = w.kind;
            ins.get(w.to).add(r);
        }
        if (w.what.equals("END") && w.kind == 2) {
            ack("END", w.to, w.number);
        }
        if (!r.open) {
            return;
        }
        r.lastTime = now;
        if (r.ended) {
            if (w.what.equals("ACK")) {
                r.open = false;
            }
            return;
        }
        hear(r, w);
    }

    private void hear(In r, Wire w) {
        boolean first = false;
        switch (w.what) {
            case "METADATA":
                if (r.metadata == null) {
                    r.metadata = w;
                }
                break;
            case "DATA":
                r.segments.putIfAbsent(w.segment, w.bytes);
                break;
            case "END":
                if (w.cancelled) {
                    end(r, 2);
                    return;
                }
                if (r.end == null) {
                    r.end = w;
                    r.endTime = now;
                    first = true;
                }
                break;
            default:
                break;
        }
        if (r.end == null) {
            return;
        }
        if (r.metadata != null && missing(r).isEmpty()) {
            complete(r, w.to);
        } else if (first && r.kind == 2) {
            nak(r);
        }
    }

    private void complete(In r, int home) {
        List<Integer> bytes = new ArrayList<>();
        for (int i = 0; i < r.end.size; i++) {
            int[] segment = r.segments.get(i / 4);
            bytes.add(i % 4 < segment.length ? segment[i % 4] : 0);
        }
        if (sum(bytes) != r.end.sum) {
            end(r, 3);
            return;
        }
        if (locked(home, r.metadata.dest)) {
            end(r, 4);
            return;
        }
        files.get(home).put(r.metadata.dest, bytes);
        int other = r.metadata.other;
        if (r.metadata.request == 1) {
            boolean can = files.get(home).containsKey(other) && !locked(home, other);
            if (can) {
                files.get(home).remove(other);
            }
            r.requestState = can ? 1 : 2;
        } else if (r.metadata.request == 2) {
            boolean can = !locked(home, other);
            if (can) {
                files.get(home).put(other, new ArrayList<>(bytes));
            }
            r.requestState = can ? 1 : 2;
        }
        end(r, 1);
    }

    boolean lose(int k) {
        if (wireAt(k) == null) {
            return false;
        }
        wires.remove(k);
        return true;
    }

    boolean copy(int k) {
        Wire w = wireAt(k);
        if (w == null || wires.size() == 24) {
            return false;
        }
        Wire twin = new Wire();
        twin.what = w.what;
        twin.from = w.from;
        twin.to = w.to;
        twin.number = w.number;
        twin.kind = w.kind;
        twin.dest = w.dest;
        twin.request = w.request;
        twin.other = w.other;
        twin.segment = w.segment;
        twin.bytes = w.bytes.clone();
        twin.size = w.size;
        twin.sum = w.sum;
        twin.cancelled = w.cancelled;
        twin.result = w.result;
        twin.acks = w.acks;
        twin.wantsMetadata = w.wantsMetadata;
        twin.gaps = w.gaps;
        wires.add(twin);
        return true;
    }

    boolean spoil(int k, int bits) {
        Wire w = wireAt(k);
        if (w == null || !w.what.equals("DATA")) {
            return false;
        }
        for (int i = 0; i < w.bytes.length; i++) {
            w.bytes[i] ^= (bits >>> (8 * i)) & 0xff;
        }
        return true;
    }

    int units() {
        return wires.size();
    }

    int unit(int k, int field) {
        Wire w = wireAt(k);
        if (w == null || !in(field, 0, 3)) {
            return -1;
        }
        int kind = List.of("METADATA", "DATA", "END", "FINISHED", "ACK", "NAK").indexOf(w.what) + 1;
        if (field < 3) {
            return field == 0 ? kind : field == 1 ? w.to : w.number;
        }
        switch (kind) {
            case 1:
                return w.dest;
            case 2:
                return w.segment;
            case 3:
                return w.size;
            case 4:
                return w.result;
            case 5:
                return w.acks.equals("END") ? 3 : 4;
            default:
                return w.gaps.size() + (w.wantsMetadata ? 8 : 0);
        }
    }

    int sender(int entity, int number) {
        Out o = out(entity, number);
        return o == null ? 0 : o.open ? 5 : o.result;
    }

    int receiver(int entity, int number) {
        In r = receiving(entity, number);
        return r == null ? 0 : !r.open ? r.result : r.ended ? 6 : 5;
    }

    int request(int entity, int number) {
        In r = receiving(entity, number);
        return r == null ? 0 : r.requestState;
    }
}
