import java.io.IOException;
import java.nio.file.Files;
import java.nio.file.Path;
import java.util.NoSuchElementException;

/** What README.md says about the class's use. */
final class UseTest {
    private UseTest() {
    }

    public static void main(String[] args) throws IOException {
        exampleHolds();
        exampleStandsInReadme();
        numbersOfUnits();
        numbersOfResults();
        numbersOfRequests();
        whatThrowsChangesNothing();
        Check.end();
    }

    private static void exampleHolds() {
        FileDelivery x = new FileDelivery(0);
        x.create(0, 1);
        x.append(0, 1, 6, 0x060504030201L);
        int number = x.put(0, 1, 2, 2, 0, 0);
        int ticks = 0;
        while (x.sender(0, number) == 5 && ticks < 100) {
            x.tick();
            ticks++;
            while (x.units() > 0) {
                x.deliver(0);
            }
        }
        Check.same("ticks of the example", ticks, 4);
        Check.same("size(1, 2) of the example", x.size(1, 2), 6);
        Check.same("sender of the example", x.sender(0, number), 1);
        Check.same("receiver of the example", x.receiver(0, number), 1);
    }

    /** So that a change of the example in README.md is not forgotten here. */
    private static void exampleStandsInReadme() throws IOException {
        String readme = Files.readString(Path.of("README.md"));
        String[] lines = {
            "FileDelivery x = new FileDelivery(0);",
            "x.create(0, 1);",
            "x.append(0, 1, 6, 0x060504030201L);",
            "int number = x.put(0, 1, 2, 2, 0, 0);",
            "while (x.sender(0, number) == 5) {",
            "x.tick();",
            "while (x.units() > 0) {",
            "x.deliver(0);",
            "x.size(1, 2);",
        };
        int from = 0;
        for (String line : lines) {
            int at = readme.indexOf(line, from);
            Check.same("README.md has, in this order: " + line, at >= 0, true);
            from = Math.max(at, from);
        }
    }

    private static void numbersOfUnits() {
        Script run = new Script("numbers of units", 0).file(0, 0, 5).put(1, 0, 0, 1, 2).ticks(4);
        run.kinds(Script.METADATA, Script.DATA, Script.DATA, Script.END);
        run.deliver(3).kinds(Script.METADATA, Script.DATA, Script.DATA, Script.ACK, Script.NAK);
        run.deliver(0, 0, 0).kinds(Script.ACK, Script.NAK, Script.FINISHED);
    }

    private static void numbersOfResults() {
        Script run = new Script("numbers of results", 0).file(0, 0, 5).put(1, 0, 0, 1, 2);
        run.sender(0, 1, Script.OPEN).receiver(0, 1, 0).request(0, 1, 0);
        run.ticks(4).deliver(0).receiver(0, 1, Script.OPEN);
        run.deliver(0, 0, 0).receiver(0, 1, Script.ENDED);
        run.deliverAll().sender(0, 1, Script.DONE).receiver(0, 1, Script.DONE);
        run.put(2, 0, 0, 1, 1).cancel(0, 2, true).ticks(1).sender(0, 2, Script.CANCELLED);
        run.put(3, 0, 0, 1, 1).ticks(1).deliver(1).loseAll().ticks(20).receiver(0, 3, Script.FAILED);
        rejected();
    }

    private static void rejected() {
        Script run = new Script("a locked DEST", 0).file(0, 0, 1).file(1, 1, 1);
        run.put(1, 0, 0, 1, 1).put(1, 1, 1, 0, 2).ticks(1).lose(1).ticks(1).lose(2).ticks(1).lose(3);
        run.kinds(Script.METADATA, Script.DATA, Script.END).deliver(0, 0, 0).receiver(0, 1, Script.REJECTED);
    }

    private static void numbersOfRequests() {
        Script run = new Script("numbers of requests", 0).file(0, 0, 1);
        run.due("put", run.x.put(0, 0, 1, 1, 2, 2), 1);
        run.request(0, 1, 0).ticks(3).deliver(0, 0, 0).request(0, 1, 1).bytes(1, 2, 1);
        run.due("put", run.x.put(0, 0, 1, 1, 1, 5), 2);
        run.ticks(3).deliver(0, 0, 0).request(0, 2, 2);
        run.due("put", run.x.put(0, 0, 1, 1, 1, 2), 3);
        run.ticks(3).deliver(0, 0, 0).request(0, 3, 1).size(1, 2, -1);
    }

    private static void whatThrowsChangesNothing() {
        FileDelivery x = new FileDelivery(0);
        x.create(0, 0);
        x.append(0, 0, 8, 1);
        Check.refused("put with class 3", IllegalArgumentException.class, () -> x.put(0, 0, 0, 3, 0, 0));
        Check.refused("put of no file", NoSuchElementException.class, () -> x.put(0, 1, 0, 1, 0, 0));
        Check.refused("append of 9 bytes", IllegalArgumentException.class, () -> x.append(0, 0, 9, 1));
        Check.same("size", x.size(0, 0), 8);
        Check.same("no number was given", x.put(0, 0, 0, 1, 0, 0), 1);
        Check.refused("delete while locked", IllegalStateException.class, () -> x.delete(0, 0));
        Check.refused("append while locked", IllegalStateException.class, () -> x.append(0, 0, 1, 1));
        Check.same("size", x.size(0, 0), 8);
    }
}
