/** Promises 11 to 16 and the terms of units: a test for each sentence that names an edge, which stands above it. */
final class LinkEdgesTest {
    private LinkEdgesTest() {
    }

    public static void main(String[] args) {
        deliverAnswers();
        loseAnswers();
        copyAnswers();
        spoilAnswers();
        restKeepsItsOrder();
        copyIsTheLast();
        copyAt24();
        copyOfEachKind();
        copyOfANakAsksTheSame();
        copyIsApart();
        spoilOnlyData();
        spoilEachByte();
        spoilBehindItsBytes();
        spoilTwiceIsNothing();
        unitsFromNoneTo24();
        unitOfNone();
        unitOfNoField();
        unitOfEachKind();
        twentyFifthIsLost();
        bothWaysCountTogether();
        lostEndOfClassOne();
        lostEndsCount();
        lostRepairIsSent();
        lostNaksCount();
        lostFinishedCount();
        roomOfTheDelivered();
        Check.end();
    }

    private interface OfUnit {
        Object answer(int k);
    }

    /** METADATA, DATA of four bytes and of two, END; the sender is suspended. */
    private static Script four(String name) {
        Script s = new Script(name, 0).file(0, 1, 6).put(1, 0, 1, 2, 2).ticks(4).suspend(0, 1, true, true);
        return s.kinds(Script.METADATA, Script.DATA, Script.DATA, Script.END);
    }

    private static void falseForNone(Script s, int count, OfUnit call) {
        for (int k : new int[] {-1, count, count + 1, 24, 25, -24, Integer.MIN_VALUE, Integer.MAX_VALUE}) {
            s.due("of unit " + k, call.answer(k), false);
        }
        s.due("units()", s.x.units(), count);
    }

    /** "Unit k (from 0) under way is delivered: true; false when there is none." */
    private static void deliverAnswers() {
        Script none = new Script("deliver, no units", 0);
        falseForNone(none, 0, k -> none.x.deliver(k));
        none.due("unit 0", none.x.deliver(0), false);
        Script s = four("deliver");
        falseForNone(s, 4, k -> s.x.deliver(k));
        s.receiver(0, 1, 0).deliver(2).kinds(Script.METADATA, Script.DATA, Script.END).receiver(0, 1, Script.OPEN);
        s.deliver(0, 0, 0).receiver(0, 1, Script.ENDED).size(1, 2, 6);
    }

    /** "Unit k is lost: true; false when there is none." */
    private static void loseAnswers() {
        Script none = new Script("lose, no units", 0);
        falseForNone(none, 0, k -> none.x.lose(k));
        none.due("unit 0", none.x.lose(0), false);
        Script s = four("lose");
        falseForNone(s, 4, k -> s.x.lose(k));
        s.lose(3, 0, 1, 0).kinds().due("lose", s.x.lose(0), false);
        s.receiver(0, 1, 0);
    }

    /** "A unit like unit k is under way, too, as the last one: true; false when there is none". */
    private static void copyAnswers() {
        Script none = new Script("copy, no units", 0);
        falseForNone(none, 0, k -> none.x.copy(k));
        none.due("unit 0", none.x.copy(0), false);
        Script s = four("copy");
        falseForNone(s, 4, k -> s.x.copy(k));
        s.copy(3, 4).kinds(Script.METADATA, Script.DATA, Script.DATA, Script.END, Script.END, Script.END);
    }

    /** "true; false when there is none, or it is not DATA." */
    private static void spoilAnswers() {
        Script none = new Script("spoil, no units", 0);
        falseForNone(none, 0, k -> none.x.spoil(k, 1));
        none.due("unit 0", none.x.spoil(0, 1), false);
        Script s = four("spoil");
        falseForNone(s, 4, k -> s.x.spoil(k, 1));
        s.deliverAll().receiver(0, 1, Script.DONE);
    }

    /** "They are in the order in which they were sent": whichever is taken out. */
    private static void restKeepsItsOrder() {
        for (int out = 0; out < 18; out++) {
            for (int way = 0; way < 2; way++) {
                Script s = new Script("without " + out, 0).file(0, 0, 64).put(1, 0, 0, 0, 1).ticks(18);
                s.due("taken", way == 0 ? s.x.lose(out) : s.x.deliver(out), true);
                s.due("units()", s.x.units(), 17);
                for (int k = 0; k < 17; k++) {
                    int was = k < out ? k : k + 1;
                    s.due("unit(" + k + ", 0)", s.x.unit(k, 0), was == 0 ? Script.METADATA : was == 17 ? Script.END : Script.DATA);
                    s.detail(k, was == 0 ? 0 : was == 17 ? 64 : was - 1);
                }
                s.due("unit(17, 0)", s.x.unit(17, 0), -1);
            }
        }
    }

    /** "as the last one": of the first, of the last, and behind it comes what is sent later. */
    private static void copyIsTheLast() {
        Script s = four("the last").copy(0);
        s.kinds(Script.METADATA, Script.DATA, Script.DATA, Script.END, Script.METADATA).detail(4, 2).copy(1);
        s.detail(5, 0).copy(2).detail(6, 1).due("units()", s.x.units(), 7);
        s.suspend(0, 1, false, true).ticks(4).due("END again", s.x.unit(7, 0), Script.END);
    }

    /** "or 24 are under way.": the 24th is made, the 25th is not, until one is gone. */
    private static void copyAt24() {
        Script s = four("24");
        for (int count = 4; count < 24; count++) {
            s.due("units()", s.x.units(), count);
            s.copy(count - 1);
        }
        s.due("units()", s.x.units(), 24);
        for (int k : new int[] {0, 1, 3, 23, 24, -1}) {
            s.due("copy(" + k + ")", s.x.copy(k), false);
        }
        s.due("units()", s.x.units(), 24);
        s.lose(23).due("units()", s.x.units(), 23);
        s.copy(1).due("the 24th", s.x.unit(23, 0), Script.DATA);
        s.due("copy", s.x.copy(0), false);
        s.deliver(0).due("units()", s.x.units(), 23);
        s.copy(22).due("units()", s.x.units(), 24);
    }

    private static Script sameAs(Script s, int k, int last) {
        for (int w = 0; w < 4; w++) {
            s.due("unit(" + last + ", " + w + ")", s.x.unit(last, w), s.x.unit(k, w));
        }
        return s;
    }

    /** "A unit like unit k": its copy alone does what it would have done, for each kind. */
    private static void copyOfEachKind() {
        Script s = four("like it").copy(0, 1, 2, 3);
        for (int k = 0; k < 4; k++) {
            sameAs(s, k, 4 + k);
        }
        s.lose(0, 0, 0, 0).deliver(0, 0, 0, 0).receiver(0, 1, Script.ENDED).bytes(1, 2, 1, 2, 3, 4, 5, 6);
        sameAs(sameAs(s.kinds(Script.ACK, Script.FINISHED).copy(0, 1), 0, 2), 1, 3);
        s.lose(0, 0).deliver(1).sender(0, 1, Script.DONE).kinds(Script.ACK, Script.ACK).copy(1);
        sameAs(s, 1, 2).lose(1).deliver(1).receiver(0, 1, Script.DONE);
        Script c = four("a cancelled END").cancel(0, 1, true).suspend(0, 1, false, true).ticks(1).copy(4).lose(4);
        c.detail(4, -1).deliver(4).receiver(0, 1, Script.ENDED).deliverAll().receiver(0, 1, Script.CANCELLED);
    }

    /** The same of a NAK: METADATA and its gaps. */
    private static void copyOfANakAsksTheSame() {
        Script s = new Script("NAK", 0).file(0, 0, 20).put(1, 0, 0, 2, 2).ticks(7).lose(4, 0).deliver(1, 2, 2).loseBehind(4);
        s.kinds(Script.DATA, Script.DATA, Script.ACK, Script.NAK).detail(3, 8 + 2).copy(3);
        sameAs(s, 3, 4).lose(3).deliver(3, 2).loseAll().ticks(1).kinds(Script.METADATA).loseAll();
        for (int segment : new int[] {0, 2, 3}) {
            s.ticks(1).due("DATA", s.x.unit(0, 0), Script.DATA);
            s.detail(0, segment).loseAll();
        }
    }

    /** "A unit like unit k is under way, too": what spoils one does not spoil the other; a spoiled one's copy is spoiled. */
    private static void copyIsApart() {
        four("the copy is spoiled").copy(1).spoil(4, 1).lose(4).deliverAll().receiver(0, 1, Script.DONE);
        four("the other is spoiled").copy(1).spoil(1, 1).lose(1).deliver(0, 0, 1, 0).receiver(0, 1, Script.ENDED)
            .bytes(1, 2, 1, 2, 3, 4, 5, 6);
        four("spoiled before").spoil(1, 1).copy(1).lose(1).deliver(0, 0, 1, 0).receiver(0, 1, Script.ENDED).size(1, 2, -1)
            .detail(1, Script.FAILED);
    }

    /** "or it is not DATA": METADATA, END, ACK, NAK, FINISHED. */
    private static void spoilOnlyData() {
        Script s = four("not DATA");
        s.due("METADATA", s.x.spoil(0, -1), false);
        s.due("END", s.x.spoil(3, -1), false);
        s.deliver(3).due("ACK", s.x.spoil(3, -1), false);
        s.due("NAK", s.x.spoil(4, -1), false);
        s.deliver(0, 0, 0).kinds(Script.ACK, Script.NAK, Script.FINISHED).due("FINISHED", s.x.spoil(2, -1), false);
        s.detail(0, 3).detail(1, 9).detail(2, Script.DONE).receiver(0, 1, Script.ENDED).size(1, 2, 6);
    }

    /** "(the lowest eight with its first byte, and so on": seen where both segments change by the same. */
    private static void spoilEachByte() {
        for (int place = 0; place < 4; place++) {
            Script s = new Script("place " + place, 0).file(0, 0, 0);
            s.due("append", s.x.append(0, 0, 8, 0xffffffff00000000L), 8);
            s.put(1, 0, 0, 1, 1).ticks(4).spoil(1, 0xff << (8 * place)).spoil(2, 0xff << (8 * place));
            s.deliverAll().receiver(0, 1, Script.DONE);
            for (int i = 0; i < 8; i++) {
                s.due("at " + i, s.x.at(1, 1, i), i < 4 == (i % 4 == place) ? 255 : 0);
            }
        }
    }

    /** "as far as it has bytes)": the bits behind them change nothing. */
    private static void spoilBehindItsBytes() {
        for (int bytes = 1; bytes <= 4; bytes++) {
            for (int place = 0; place < 4; place++) {
                Script s = new Script(bytes + " bytes, place " + place, 0).file(0, 0, bytes).put(1, 0, 0, 1, 1).ticks(3);
                s.spoil(1, 0x80 << (8 * place)).deliverAll().receiver(0, 1, place < bytes ? Script.FAILED : Script.DONE);
                s.size(1, 1, place < bytes ? -1 : bytes);
            }
            Script all = new Script("all behind " + bytes, 0).file(0, 0, bytes).put(1, 0, 0, 1, 1).ticks(3);
            all.spoil(1, bytes == 4 ? 0 : -1 << (8 * bytes)).deliverAll().receiver(0, 1, Script.DONE).size(1, 1, bytes);
            for (int i = 0; i < bytes; i++) {
                all.due("at " + i, all.x.at(1, 1, i), i + 1);
            }
        }
    }

    /** "are joined by ^ with bits": twice the same is nothing, no bits are nothing, and both are true. */
    private static void spoilTwiceIsNothing() {
        four("twice").spoil(1, -1).spoil(1, -1).spoil(2, Integer.MIN_VALUE).spoil(2, 0).deliverAll().receiver(0, 1, Script.DONE);
        four("once").spoil(1, Integer.MIN_VALUE).deliverAll().receiver(0, 1, Script.FAILED);
    }

    /** "How many units are under way." */
    private static void unitsFromNoneTo24() {
        Script s = new Script("units", 0).file(0, 0, 64).kinds().put(1, 0, 0, 0, 2).put(2, 0, 0, 0, 2);
        for (int count = 2; count <= 24; count += 2) {
            s.ticks(1).due("units()", s.x.units(), count);
        }
        s.ticks(1).due("units()", s.x.units(), 24);
        for (int count = 23; count >= 0; count--) {
            s.lose(count / 2).due("units()", s.x.units(), count);
        }
    }

    /** "-1 when there is none". */
    private static void unitOfNone() {
        Script none = new Script("no units", 0);
        Script s = four("four units");
        for (int w = -1; w <= 4; w++) {
            none.due("unit(0, " + w + ")", none.x.unit(0, w), -1);
            for (int k : new int[] {-1, 4, 5, 23, 24, Integer.MIN_VALUE, Integer.MAX_VALUE}) {
                s.due("unit(" + k + ", " + w + ")", s.x.unit(k, w), -1);
            }
        }
        s.lose(3).due("the lost one", s.x.unit(3, 0), -1);
    }

    /** "or w is not 0 .. 3." */
    private static void unitOfNoField() {
        Script s = four("no field");
        for (int k = 0; k < 4; k++) {
            for (int w : new int[] {-1, 4, 5, Integer.MIN_VALUE, Integer.MAX_VALUE}) {
                s.due("unit(" + k + ", " + w + ")", s.x.unit(k, w), -1);
            }
        }
    }

    private static void fields(Script s, int k, int... due) {
        for (int w = 0; w < 4; w++) {
            s.due("unit(" + k + ", " + w + ")", s.x.unit(k, w), due[w]);
        }
    }

    /** "what it is (w = 0); the entity that it goes to (1); the number of its transaction (2); then (3)": for each kind. */
    private static void unitOfEachKind() {
        for (int entity = 0; entity < 2; entity++) {
            Script s = new Script("of entity " + entity, 0).file(entity, 0, 64).file(entity, 1, 0);
            s.put(1, entity, 1, 0, 1).ticks(2).loseAll().put(2, entity, 0, 5, 2).ticks(18);
            fields(s, 0, Script.METADATA, 1 - entity, 2, 5);
            fields(s, 1, Script.DATA, 1 - entity, 2, 0);
            fields(s, 16, Script.DATA, 1 - entity, 2, 15);
            fields(s, 17, Script.END, 1 - entity, 2, 64);
            s.deliver(17);
            fields(s, 17, Script.ACK, entity, 2, 3);
            fields(s, 18, Script.NAK, entity, 2, 8 + 1);
            for (int i = 0; i < 17; i++) {
                s.deliver(0);
            }
            fields(s, 2, Script.FINISHED, entity, 2, Script.DONE);
            s.deliver(2);
            fields(s, 2, Script.ACK, 1 - entity, 2, 4);
            s.put(3, entity, 1, 3, 2).ticks(2);
            fields(s, 3, Script.METADATA, 1 - entity, 3, 3);
            fields(s, 4, Script.END, 1 - entity, 3, 0);
            s.cancel(entity, 3, true).ticks(1);
            fields(s, 5, Script.END, 1 - entity, 3, -1);
        }
    }

    /** "at most 24 are under way in all, and one that is sent then is lost at once.": the 24th is not, and the lost one was sent. */
    private static void twentyFifthIsLost() {
        Script s = new Script("25th", 0).file(0, 0, 8).put(1, 0, 0, 0, 1).put(2, 0, 0, 0, 1).ticks(1).fill(0).lose(0);
        s.ticks(1).due("units()", s.x.units(), 24);
        fields(s, 23, Script.DATA, 1, 1, 0);
        s.ticks(1).due("units()", s.x.units(), 24);
        fields(s, 23, Script.DATA, 1, 1, 0);
        s.loseAll().ticks(1).kinds(Script.END, Script.END).sender(0, 1, Script.DONE).sender(0, 2, Script.DONE);
    }

    /** "in all": units to both entities count together. */
    private static void bothWaysCountTogether() {
        Script s = new Script("in all", 0).file(0, 0, 8).file(1, 0, 8).put(1, 0, 0, 0, 1).put(1, 1, 0, 0, 1).ticks(1);
        s.kinds(Script.METADATA, Script.METADATA);
        for (int count = 2; count < 23; count++) {
            s.copy(count % 2);
        }
        s.ticks(1).due("units()", s.x.units(), 24);
        s.due("goes to", s.x.unit(23, 1), 1);
        s.loseAll().ticks(1).kinds(Script.DATA, Script.DATA).detail(0, 1).detail(1, 1);
    }

    /** "one that is sent then is lost at once": the sender of class 1 is closed all the same. */
    private static void lostEndOfClassOne() {
        Script s = new Script("END, class 1", 0).file(0, 0, 0).put(1, 0, 0, 0, 1).ticks(1).fill(0);
        s.ticks(1).sender(0, 1, Script.DONE).due("units()", s.x.units(), 24);
        s.due("no END", s.x.unit(23, 0), Script.METADATA);
        s.quietThen(20);
        Script t = new Script("cancelled END, class 1", 0).file(0, 0, 0).put(1, 0, 0, 0, 1).ticks(1).fill(0).cancel(0, 1, true);
        t.ticks(1).sender(0, 1, Script.CANCELLED).quietThen(20);
    }

    /** The same for the timer of END and its three. */
    private static void lostEndsCount() {
        Script s = new Script("the first END", 0).file(0, 0, 0).put(1, 0, 0, 0, 2).ticks(1).fill(0).ticks(1);
        s.quietThen(3, Script.END).quietThen(3, Script.END).quietThen(2).sender(0, 1, Script.OPEN);
        s.ticks(1).kinds().sender(0, 1, Script.FAILED);
        Script t = new Script("all ENDs", 0).file(0, 0, 0).put(1, 0, 0, 0, 2).ticks(1).fill(0).ticks(12).sender(0, 1, Script.OPEN);
        t.ticks(1).sender(0, 1, Script.FAILED).due("units()", t.x.units(), 24);
    }

    /** The same for what a NAK asked for: it was sent again. */
    private static void lostRepairIsSent() {
        Script s = new Script("repairs", 0).file(0, 0, 4).put(1, 0, 0, 0, 2).ticks(3).deliver(2).deliver(3, 2).fill(0);
        s.ticks(1).due("units()", s.x.units(), 24);
        s.loseAll().ticks(1).kinds(Script.DATA).loseAll().ticks(1).kinds();
    }

    /** The same for the three NAKs: the first finds no room behind the ACK. */
    private static void lostNaksCount() {
        Script s = new Script("NAKs", 0).file(0, 0, 4).put(1, 0, 0, 0, 2).ticks(3).suspend(0, 1, true, true).fill(1).deliver(2);
        s.due("units()", s.x.units(), 24);
        s.due("ACK", s.x.unit(23, 0), Script.ACK);
        s.ticks(4).due("units()", s.x.units(), 24);
        s.quietThen(3, Script.NAK).quietThen(3, Script.FINISHED).detail(0, Script.FAILED);
    }

    /** The same for the three FINISHED. */
    private static void lostFinishedCount() {
        Script s = new Script("FINISHED", 0).file(0, 0, 0).put(1, 0, 0, 0, 2).ticks(2).suspend(0, 1, true, true).deliver(0).fill(0);
        s.deliver(0).receiver(0, 1, Script.ENDED).due("ACK", s.x.unit(23, 0), Script.ACK);
        s.ticks(4).due("units()", s.x.units(), 24);
        s.quietThen(3, Script.FINISHED).quietThen(2).receiver(0, 1, Script.ENDED).ticks(1).receiver(0, 1, Script.DONE);
    }

    /** "Unit k .. under way is delivered": it is under way no more, so of 24 one makes room for one answer. */
    private static void roomOfTheDelivered() {
        Script s = new Script("room", 0).file(0, 0, 0).put(1, 0, 0, 0, 2).ticks(2).deliver(0, 0).kinds(Script.ACK, Script.FINISHED);
        s.fill(0).deliver(1).sender(0, 1, Script.DONE).due("units()", s.x.units(), 24);
        fields(s, 23, Script.ACK, 1, 1, 4);
        s.deliver(23).receiver(0, 1, Script.DONE).due("units()", s.x.units(), 23);
    }
}
