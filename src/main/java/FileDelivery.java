import java.util.ArrayList;
import java.util.NoSuchElementException;

/**
 * Delivery of files between the stores of two entities over a link that loses, doubles and
 * reorders units. The document's promises are the contract; see README.md.
 */
public final class FileDelivery {
    private static final int ENTITIES = 2;
    private static final int FILES = 6;
    private static final int MOST_BYTES = 64;
    private static final int MOST_APPENDED = 8;
    private static final int SEGMENT_BYTES = 4;
    private static final int MOST_SEGMENTS = 16;
    private static final int MOST_UNITS = 24;
    private static final int MOST_OPEN = 3;
    private static final int MOST_TRIES = 3;
    private static final int MOST_GAPS = 3;
    /** Far above what 512 calls can open; past them put refuses, so that what is kept has a bound. */
    private static final int MOST_TRANSACTIONS = 512;

    private static final int UNACKNOWLEDGED = 1;
    private static final int ACKNOWLEDGED = 2;

    private static final int NO_REQUEST = 0;
    private static final int DELETE_OTHER = 1;
    private static final int COPY_TO_OTHER = 2;
    private static final int REQUEST_DONE = 1;
    private static final int REQUEST_NOT_DONE = 2;

    private static final int METADATA = 1;
    private static final int DATA = 2;
    private static final int END = 3;
    private static final int FINISHED = 4;
    private static final int ACK = 5;
    private static final int NAK = 6;
    private static final int CANCELLED_SIZE = -1;
    private static final int METADATA_WANTED = 8;

    private static final int DONE = 1;
    private static final int CANCELLED = 2;
    private static final int FAILED = 3;
    private static final int REJECTED = 4;
    private static final int IS_OPEN = 5;
    private static final int IS_ENDED = 6;

    private final int timeout;
    private final Side[] sides;
    private final Link link;
    private int time;

    public FileDelivery(int timer) {
        timeout = 4 + (timer & 7);
        sides = new Side[] {new Side(), new Side()};
        link = new Link();
        time = 0;
    }

    public boolean create(int entity, int file) {
        if (!isFile(entity, file) || sides[entity].store.has(file)) {
            return false;
        }
        sides[entity].store.makeEmpty(file);
        return true;
    }

    public int append(int entity, int file, int n, long w)
            throws IllegalArgumentException, NoSuchElementException, IllegalStateException {
        if (!isFile(entity, file) || n < 1 || n > MOST_APPENDED) {
            throw new IllegalArgumentException("no such entity or file, or not 1 to 8 bytes");
        }
        Side side = sides[entity];
        if (!side.store.has(file)) {
            throw new NoSuchElementException("the file is not there");
        }
        if (side.locks(file) || side.store.length(file) + n > MOST_BYTES) {
            throw new IllegalStateException("the file is locked or would have more than 64 bytes");
        }
        side.store.extend(file, n, w);
        return side.store.length(file);
    }

    public boolean delete(int entity, int file) throws NoSuchElementException, IllegalStateException {
        if (!isThere(entity, file)) {
            throw new NoSuchElementException("the file is not there");
        }
        if (sides[entity].locks(file)) {
            throw new IllegalStateException("the file is locked");
        }
        sides[entity].store.remove(file);
        return true;
    }

    public int size(int entity, int file) {
        return isThere(entity, file) ? sides[entity].store.length(file) : -1;
    }

    public int at(int entity, int file, int i) throws NoSuchElementException, IndexOutOfBoundsException {
        if (!isThere(entity, file)) {
            throw new NoSuchElementException("the file is not there");
        }
        if (i < 0 || i >= sides[entity].store.length(file)) {
            throw new IndexOutOfBoundsException("the file has no such byte");
        }
        return sides[entity].store.byteOf(file, i);
    }

    public int put(int entity, int file, int dest, int kind, int request, int other)
            throws IllegalArgumentException, NoSuchElementException, IllegalStateException {
        if (!isFile(entity, file) || !isFileNumber(dest) || !isFileNumber(other)) {
            throw new IllegalArgumentException("no such entity or file");
        }
        if (kind < UNACKNOWLEDGED || kind > ACKNOWLEDGED || request < NO_REQUEST || request > COPY_TO_OTHER) {
            throw new IllegalArgumentException("no such class or request");
        }
        Side side = sides[entity];
        if (!side.store.has(file)) {
            throw new NoSuchElementException("the file is not there");
        }
        if (side.openSenders.size() >= MOST_OPEN || side.senders.size() >= MOST_TRANSACTIONS) {
            throw new IllegalStateException("three senders are open");
        }
        int number = side.senders.size() + 1;
        Transaction about = new Transaction(entity, number, file, dest, kind, request, other);
        side.addSender(new Sender(about, side.store, link, timeout));
        return number;
    }

    public boolean cancel(int entity, int number) {
        Sender found = findSender(entity, number);
        return found != null && found.beCancelled();
    }

    public boolean suspend(int entity, int number, boolean on) {
        Sender found = findSender(entity, number);
        return found != null && found.beSuspended(on);
    }

    public int tick() {
        time++;
        for (int entity = 0; entity < ENTITIES; entity++) {
            sides[entity].passTick(time);
        }
        return time;
    }

    public boolean deliver(int k) {
        Unit taken = link.take(k);
        if (taken == null) {
            return false;
        }
        if (taken.to == taken.about.entity) {
            handToSender(taken);
        } else {
            handToReceiver(taken);
        }
        return true;
    }

    public boolean lose(int k) {
        return link.take(k) != null;
    }

    public boolean copy(int k) {
        Unit found = link.look(k);
        if (found == null || link.isFull()) {
            return false;
        }
        link.send(found.twin());
        return true;
    }

    public boolean spoil(int k, int bits) {
        Unit found = link.look(k);
        if (found == null || found.what != DATA) {
            return false;
        }
        // Bits behind the unit's last byte do no harm: a receiver reads only as many bytes as there are.
        found.content ^= bits;
        return true;
    }

    public int units() {
        return link.count;
    }

    public int unit(int k, int w) {
        Unit found = link.look(k);
        if (found == null) {
            return -1;
        }
        switch (w) {
            case 0:
                return found.what;
            case 1:
                return found.to;
            case 2:
                return found.about.number;
            case 3:
                return found.detail;
            default:
                return -1;
        }
    }

    public int sender(int entity, int number) {
        Sender found = findSender(entity, number);
        if (found == null) {
            return 0;
        }
        return found.isOpen() ? IS_OPEN : found.result;
    }

    public int receiver(int entity, int number) {
        Receiver found = findReceiver(entity, number);
        if (found == null) {
            return 0;
        }
        if (found.closed) {
            return found.result;
        }
        return found.hasEnded() ? IS_ENDED : IS_OPEN;
    }

    public int request(int entity, int number) {
        Receiver found = findReceiver(entity, number);
        return found == null ? 0 : found.requestAnswer;
    }

    private static boolean isEntity(int entity) {
        return entity >= 0 && entity < ENTITIES;
    }

    private static boolean isFileNumber(int file) {
        return file >= 0 && file < FILES;
    }

    private static boolean isFile(int entity, int file) {
        return isEntity(entity) && isFileNumber(file);
    }

    private boolean isThere(int entity, int file) {
        return isFile(entity, file) && sides[entity].store.has(file);
    }

    private Sender findSender(int entity, int number) {
        return isEntity(entity) ? sides[entity].senderOf(number) : null;
    }

    private Receiver findReceiver(int entity, int number) {
        Sender found = findSender(entity, number);
        return found == null ? null : found.about.receiver;
    }

    private void handToSender(Unit unit) {
        Side side = sides[unit.to];
        Sender found = side.senderOf(unit.about.number);
        if (found != null) {
            found.hear(unit);
            side.forgetClosed();
        }
    }

    private void handToReceiver(Unit unit) {
        Side side = sides[unit.to];
        if (unit.about.receiver == null) {
            openReceiver(unit, side);
        }
        Receiver found = unit.about.receiver;
        if (found != null) {
            found.hear(unit, time);
            side.forgetClosed();
        }
    }

    private void openReceiver(Unit unit, Side side) {
        if (unit.what != ACK && side.openReceivers.size() < MOST_OPEN) {
            Receiver opened = new Receiver(unit.about, side, link, timeout);
            unit.about.receiver = opened;
            side.openReceivers.add(opened);
        }
    }

    private static int segmentsOf(int size) {
        return (size + SEGMENT_BYTES - 1) / SEGMENT_BYTES;
    }

    private static int checksumOf(byte[] bytes, int size) {
        int sum = 0;
        for (int i = 0; i < size && i < bytes.length; i++) {
            int place = SEGMENT_BYTES - 1 - i % SEGMENT_BYTES;
            sum += (bytes[i] & 255) << (8 * place);
        }
        return sum;
    }

    /** The files of one entity; callers have tested the file's number. */
    private static final class Store {
        private static final int NOT_THERE = -1;

        private final byte[][] bytes = new byte[FILES][MOST_BYTES];
        private final int[] sizes = new int[FILES];

        Store() {
            for (int file = 0; file < FILES; file++) {
                sizes[file] = NOT_THERE;
            }
        }

        boolean has(int file) {
            return sizes[file] != NOT_THERE;
        }

        int length(int file) {
            return sizes[file];
        }

        int byteOf(int file, int i) {
            return bytes[file][i] & 255;
        }

        int checksum(int file) {
            return checksumOf(bytes[file], sizes[file]);
        }

        int segmentLength(int file, int segment) {
            int left = sizes[file] - segment * SEGMENT_BYTES;
            return left < SEGMENT_BYTES ? left : SEGMENT_BYTES;
        }

        /** A segment's bytes in one number, the first byte the lowest. */
        int segmentBytes(int file, int segment) {
            int packed = 0;
            int length = segmentLength(file, segment);
            for (int i = 0; i < length; i++) {
                packed |= byteOf(file, segment * SEGMENT_BYTES + i) << (8 * i);
            }
            return packed;
        }

        void makeEmpty(int file) {
            sizes[file] = 0;
        }

        void remove(int file) {
            sizes[file] = NOT_THERE;
        }

        void extend(int file, int n, long w) {
            for (int i = 0; i < n; i++) {
                bytes[file][sizes[file] + i] = (byte) (w >> (8 * i));
            }
            sizes[file] += n;
        }

        void replace(int file, byte[] content, int size) {
            System.arraycopy(content, 0, bytes[file], 0, size);
            sizes[file] = size;
        }

        void duplicate(int from, int to) {
            replace(to, bytes[from], sizes[from]);
        }
    }

    /** What put was asked for, and the receiver, which is null until a unit opens one. */
    private static final class Transaction {
        private final int entity;
        private final int number;
        private final int file;
        private final int dest;
        private final int kind;
        private final int wish;
        private final int other;
        private Receiver receiver;

        Transaction(int entity, int number, int file, int dest, int kind, int wish, int other) {
            this.entity = entity;
            this.number = number;
            this.file = file;
            this.dest = dest;
            this.kind = kind;
            this.wish = wish;
            this.other = other;
        }

        boolean isAcknowledged() {
            return kind == ACKNOWLEDGED;
        }

        int otherEntity() {
            return 1 - entity;
        }
    }

    /**
     * A unit under way. The detail is what unit(k, 3) answers. The content is, for DATA, its bytes,
     * the first one the lowest; for END the checksum; for NAK a bit for each segment in its gaps.
     * METADATA's request and OTHER never change, so they are read from the transaction.
     */
    private static final class Unit {
        private final Transaction about;
        private final int what;
        private final int to;
        private final int detail;
        private final int length;
        private int content;

        Unit(Transaction about, int what, int to, int detail, int length, int content) {
            this.about = about;
            this.what = what;
            this.to = to;
            this.detail = detail;
            this.length = length;
            this.content = content;
        }

        Unit twin() {
            return new Unit(about, what, to, detail, length, content);
        }
    }

    /** The units under way, in the order in which they were sent. */
    private static final class Link {
        private final Unit[] row = new Unit[MOST_UNITS];
        private int count;

        boolean isFull() {
            return count >= MOST_UNITS;
        }

        void send(Unit unit) {
            if (count < MOST_UNITS) {
                row[count] = unit;
                count++;
            }
        }

        Unit look(int k) {
            return k >= 0 && k < count ? row[k] : null;
        }

        Unit take(int k) {
            Unit taken = look(k);
            if (taken != null) {
                count--;
                for (int i = k; i < count; i++) {
                    row[i] = row[i + 1];
                }
                row[count] = null;
            }
            return taken;
        }
    }

    /** One entity: its store, and its ends of the transactions. */
    private static final class Side {
        private final Store store = new Store();
        /** The sender with number n stands at n - 1. */
        private final ArrayList<Sender> senders = new ArrayList<>();
        private final ArrayList<Sender> openSenders = new ArrayList<>();
        private final ArrayList<Receiver> openReceivers = new ArrayList<>();

        void addSender(Sender added) {
            senders.add(added);
            openSenders.add(added);
        }

        Sender senderOf(int number) {
            return number >= 1 && number <= senders.size() ? senders.get(number - 1) : null;
        }

        boolean locks(int file) {
            for (int i = 0; i < openSenders.size(); i++) {
                if (openSenders.get(i).about.file == file) {
                    return true;
                }
            }
            return false;
        }

        void passTick(int now) {
            for (int i = 0; i < openSenders.size(); i++) {
                openSenders.get(i).passTick();
            }
            for (int i = 0; i < openReceivers.size(); i++) {
                openReceivers.get(i).passTick(now);
            }
            forgetClosed();
        }

        /** Stands apart from closing, so that no list changes while a tick goes through it. */
        void forgetClosed() {
            for (int i = openSenders.size() - 1; i >= 0; i--) {
                if (!openSenders.get(i).isOpen()) {
                    openSenders.remove(i);
                }
            }
            for (int i = openReceivers.size() - 1; i >= 0; i--) {
                if (openReceivers.get(i).closed) {
                    openReceivers.remove(i);
                }
            }
        }
    }

    private static final class Sender {
        private static final int METADATA_NEXT = -1;

        private final Transaction about;
        private final Store store;
        private final Link link;
        private final int timeout;
        /** The file is locked while the sender is open, so this stays true as long as it is used. */
        private final int segments;
        /** METADATA_NEXT, then a segment, then (as many as there are segments) END, then beyond: all was sent. */
        private int next = METADATA_NEXT;
        private boolean cancelled;
        private boolean suspended;
        private boolean endAcknowledged;
        private boolean metadataWanted;
        /** A bit for each segment that is to be sent again. */
        private int repairs;
        /** Since it was cancelled, if it was. */
        private int endsSent;
        /** A clock of its own: ticks in which it is suspended do not count. */
        private int clock;
        private int endSentAt;
        private int latestUnitAt;
        /** 0 while it is open. */
        private int result;

        Sender(Transaction about, Store store, Link link, int timeout) {
            this.about = about;
            this.store = store;
            this.link = link;
            this.timeout = timeout;
            this.segments = segmentsOf(store.length(about.file));
        }

        boolean isOpen() {
            return result == 0;
        }

        boolean beCancelled() {
            if (!isOpen() || cancelled) {
                return false;
            }
            cancelled = true;
            next = segments;
            metadataWanted = false;
            repairs = 0;
            endsSent = 0;
            endAcknowledged = false;
            return true;
        }

        boolean beSuspended(boolean on) {
            if (!isOpen() || suspended == on) {
                return false;
            }
            suspended = on;
            return true;
        }

        void passTick() {
            if (!isOpen() || suspended) {
                return;
            }
            clock++;
            if (next <= segments) {
                sendNext();
            } else if (metadataWanted || repairs != 0) {
                sendRepair();
            } else if (!endAcknowledged) {
                awaitAckOfEnd();
            } else if (clock - latestUnitAt >= 4 * timeout) {
                result = FAILED;
            }
        }

        private void sendNext() {
            if (next == METADATA_NEXT) {
                sendMetadata();
            } else if (next < segments) {
                sendData(next);
            } else {
                sendEnd();
                if (!about.isAcknowledged()) {
                    result = cancelled ? CANCELLED : DONE;
                }
            }
            next++;
        }

        private void sendRepair() {
            if (metadataWanted) {
                metadataWanted = false;
                sendMetadata();
                return;
            }
            for (int segment = 0; segment < segments; segment++) {
                int bit = 1 << segment;
                if ((repairs & bit) != 0) {
                    repairs &= ~bit;
                    sendData(segment);
                    return;
                }
            }
        }

        private void awaitAckOfEnd() {
            if (clock - endSentAt < timeout) {
                return;
            }
            if (endsSent >= MOST_TRIES) {
                result = FAILED;
            } else {
                sendEnd();
            }
        }

        private void sendMetadata() {
            launch(METADATA, about.dest, 0, 0);
        }

        private void sendData(int segment) {
            int length = store.segmentLength(about.file, segment);
            launch(DATA, segment, length, store.segmentBytes(about.file, segment));
        }

        private void sendEnd() {
            endsSent++;
            endSentAt = clock;
            if (cancelled) {
                launch(END, CANCELLED_SIZE, 0, 0);
            } else {
                launch(END, store.length(about.file), 0, store.checksum(about.file));
            }
        }

        private void launch(int what, int detail, int length, int content) {
            link.send(new Unit(about, what, about.otherEntity(), detail, length, content));
            latestUnitAt = clock;
        }

        void hear(Unit unit) {
            if (!about.isAcknowledged()) {
                return;
            }
            if (unit.what == FINISHED) {
                launch(ACK, FINISHED, 0, 0);
                if (isOpen()) {
                    result = unit.detail;
                }
            } else if (isOpen()) {
                latestUnitAt = clock;
                noteAnswer(unit);
            }
        }

        private void noteAnswer(Unit unit) {
            if (endsSent == 0) {
                return;
            }
            if (unit.what == ACK) {
                endAcknowledged = true;
            } else if (unit.what == NAK && !cancelled) {
                metadataWanted |= unit.detail >= METADATA_WANTED;
                repairs |= unit.content & ((1 << segments) - 1);
            }
        }
    }

    private static final class Receiver {
        private static final int NO_END = -1;

        private final Transaction about;
        private final Side home;
        private final Link link;
        private final int timeout;
        private final byte[] bytes = new byte[MOST_BYTES];
        private boolean metadataThere;
        /** A bit for each segment that is there. */
        private int segmentsThere;
        private int endSize = NO_END;
        private int endChecksum;
        /** The tick that it waits from: of its latest unit, then of END or its latest NAK, then of its latest FINISHED. */
        private int waitsFrom;
        /** How many NAKs were sent or, when it has ended, how many FINISHED. */
        private int tries;
        /** 0 until it has ended or is closed. */
        private int result;
        private boolean closed;
        private int requestAnswer;

        Receiver(Transaction about, Side home, Link link, int timeout) {
            this.about = about;
            this.home = home;
            this.link = link;
            this.timeout = timeout;
        }

        boolean hasEnded() {
            return result != 0;
        }

        void passTick(int now) {
            if (closed) {
                return;
            }
            int waited = now - waitsFrom;
            if (hasEnded()) {
                awaitAckOfFinished(waited, now);
            } else if (endSize == NO_END) {
                if (waited >= 4 * timeout) {
                    result = FAILED;
                    closed = true;
                }
            } else if (waited >= (about.isAcknowledged() ? timeout : 2 * timeout)) {
                if (about.isAcknowledged() && tries < MOST_TRIES) {
                    sendNak(now);
                } else {
                    end(FAILED, now);
                }
            }
        }

        private void awaitAckOfFinished(int waited, int now) {
            if (waited < timeout) {
                return;
            }
            if (tries < MOST_TRIES) {
                sendFinished(now);
            } else {
                closed = true;
            }
        }

        void hear(Unit unit, int now) {
            if (unit.what == END && about.isAcknowledged()) {
                launch(ACK, END, 0);
            }
            if (closed || hasEnded()) {
                closed |= unit.what == ACK;
                return;
            }
            boolean endIsNew = endSize == NO_END;
            note(unit);
            if (unit.what == END && unit.detail == CANCELLED_SIZE) {
                end(CANCELLED, now);
            } else if (endSize == NO_END) {
                waitsFrom = now;
            } else if (isComplete()) {
                end(storeFile(), now);
            } else if (endIsNew) {
                beginWaiting(now);
            }
        }

        private void note(Unit unit) {
            if (unit.what == METADATA) {
                metadataThere = true;
            } else if (unit.what == DATA) {
                noteSegment(unit);
            } else if (unit.what == END && endSize == NO_END && unit.detail != CANCELLED_SIZE) {
                endSize = unit.detail;
                endChecksum = unit.content;
            }
        }

        private void noteSegment(Unit unit) {
            int segment = unit.detail;
            if (segment < 0 || segment >= MOST_SEGMENTS || (segmentsThere & (1 << segment)) != 0) {
                return;
            }
            segmentsThere |= 1 << segment;
            for (int i = 0; i < unit.length && i < SEGMENT_BYTES; i++) {
                bytes[segment * SEGMENT_BYTES + i] = (byte) (unit.content >> (8 * i));
            }
        }

        private int missing() {
            return ((1 << segmentsOf(endSize)) - 1) & ~segmentsThere;
        }

        private boolean isComplete() {
            return metadataThere && missing() == 0;
        }

        private void beginWaiting(int now) {
            waitsFrom = now;
            if (about.isAcknowledged()) {
                sendNak(now);
            }
        }

        /** Answers the result that the receiver ends with. */
        private int storeFile() {
            if (checksumOf(bytes, endSize) != endChecksum) {
                return FAILED;
            }
            if (home.locks(about.dest)) {
                return REJECTED;
            }
            home.store.replace(about.dest, bytes, endSize);
            if (about.wish != NO_REQUEST) {
                requestAnswer = doRequest() ? REQUEST_DONE : REQUEST_NOT_DONE;
            }
            return DONE;
        }

        private boolean doRequest() {
            if (home.locks(about.other)) {
                return false;
            }
            if (about.wish == COPY_TO_OTHER) {
                home.store.duplicate(about.dest, about.other);
                return true;
            }
            if (about.wish != DELETE_OTHER || !home.store.has(about.other)) {
                return false;
            }
            home.store.remove(about.other);
            return true;
        }

        private void end(int outcome, int now) {
            result = outcome;
            if (about.isAcknowledged()) {
                tries = 0;
                sendFinished(now);
            } else {
                closed = true;
            }
        }

        private void sendFinished(int now) {
            tries++;
            waitsFrom = now;
            launch(FINISHED, result, 0);
        }

        /** Names the first gaps: rows of missing segments, one behind the other. */
        private void sendNak(int now) {
            tries++;
            waitsFrom = now;
            int missing = missing();
            int gaps = 0;
            int named = 0;
            for (int segment = 0; segment < MOST_SEGMENTS; segment++) {
                int bit = 1 << segment;
                boolean lacks = (missing & bit) != 0;
                boolean begins = lacks && (missing & (bit >> 1)) == 0;
                if (begins && gaps == MOST_GAPS) {
                    break;
                }
                if (begins) {
                    gaps++;
                }
                if (lacks) {
                    named |= bit;
                }
            }
            launch(NAK, metadataThere ? gaps : gaps + METADATA_WANTED, named);
        }

        private void launch(int what, int detail, int content) {
            link.send(new Unit(about, what, about.entity, detail, 0, content));
        }
    }
}
