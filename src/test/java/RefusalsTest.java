import java.util.function.Consumer;
import java.util.function.ToIntFunction;

/**
 * Of several refusals that fit the one named first is answered; a refused call changes nothing.
 * Each refusal of each call, at its edge, and each two of them that can fit at once.
 */
public final class RefusalsTest {
    private static final int BAD = SealedTalks.BAD;
    private static final int CLOSED = SealedTalks.CLOSED;
    private static final int TURN = SealedTalks.TURN;
    private static final int FULL = SealedTalks.FULL;
    private static final int LOW = Integer.MIN_VALUE;
    private static final int HIGH = Integer.MAX_VALUE;
    private static final Check CHECK = new Check();

    public static void main(String[] args) {
        startBad();
        startFull();
        writeBad();
        writeClosed();
        writeTurn();
        writeFull();
        sendBad();
        sendClosed();
        sendTurn();
        sendFull();
        deliverBad();
        deliverClosed();
        deliverOwnNext();
        deliverUnread();
        deliverUnaccepted();
        spliceBad();
        spliceFull();
        replaceBad();
        replaceFull();
        giveFalse();
        asking();
        CHECK.end();
    }

    private static void refused(Consumer<Talks> scene, ToIntFunction<Talks> call, int due) {
        Twins.changesNothing(CHECK, scene, call, due);
    }

    private static void nothing(Talks x) {
    }

    private static void midway(Talks x) {
        Scenes.talk(x, 0, 1);
    }

    private static void agreed(Talks x) {
        Scenes.agree(x, 1);
    }

    /** Sessions 0 and 1 are done, 2 may write, 3 may not; there are 60 messages. */
    private static void full(Talks x) {
        Scenes.agree(x, 1);
        x.start(0, true, 3, 0, 0);
        x.start(0, false, 4, 0, 0);
        Scenes.fill(x, 60);
    }

    /** Session 0 has written, session 1 has not read it; both are closed. */
    private static void closedUndone(Talks x) {
        Scenes.start(x, 0);
        x.write(0, 5);
        Scenes.ticks(x, 6);
    }

    private static void closedDone(Talks x) {
        Scenes.agree(x, 1);
        x.send(0, 5);
        Scenes.ticks(x, 30);
    }

    private static void twelve(Talks x) {
        for (int i = 0; i < 12; i++) {
            x.start(i % 2, i % 4 < 2, 1 + i % 8, 2, 0);
        }
    }

    private static void startBad() {
        CHECK.about("start: BAD");
        int[] noPattern = {-1, 2, LOW, HIGH};
        for (int pattern : noPattern) {
            refused(RefusalsTest::midway, x -> x.start(pattern, true, 1, 2, 0), BAD);
            refused(RefusalsTest::twelve, x -> x.start(pattern, false, 1, 2, 0), BAD);
        }
        int[] noKey = {0, 9, -1, LOW, HIGH};
        for (int key : noKey) {
            refused(RefusalsTest::nothing, x -> x.start(0, false, key, 2, 0), BAD);
            refused(RefusalsTest::midway, x -> x.start(0, true, key, 2, 0), BAD);
            refused(RefusalsTest::midway, x -> x.start(1, true, 1, key, 0), BAD);
            refused(RefusalsTest::twelve, x -> x.start(1, false, key, 2, 0), BAD);
            refused(RefusalsTest::twelve, x -> x.start(1, true, 1, key, 0), BAD);
        }
    }

    private static void startFull() {
        CHECK.about("start: FULL");
        for (int i = 0; i < 4; i++) {
            int pattern = i % 2;
            boolean initiator = i < 2;
            refused(RefusalsTest::twelve, x -> x.start(pattern, initiator, 1, 2, 0), FULL);
        }
    }

    private static void writeBad() {
        CHECK.about("write: BAD: there is no such session");
        int[] none = {-1, 2, 12, LOW, HIGH};
        for (int session : none) {
            refused(RefusalsTest::midway, x -> x.write(session, 5), BAD);
        }
        refused(RefusalsTest::nothing, x -> x.write(0, 5), BAD);
        refused(RefusalsTest::twelve, x -> x.write(12, 5), BAD);
        CHECK.about("write: BAD before FULL");
        refused(RefusalsTest::full, x -> x.write(4, 5), BAD);
        refused(RefusalsTest::full, x -> x.write(-1, 5), BAD);
    }

    private static void writeClosed() {
        CHECK.about("write: CLOSED");
        refused(x -> {
            Scenes.start(x, 0);
            Scenes.ticks(x, 6);
        }, x -> x.write(0, 5), CLOSED);
        CHECK.about("write: CLOSED before TURN: the other end's message is next");
        refused(RefusalsTest::closedUndone, x -> x.write(0, 5), CLOSED);
        refused(RefusalsTest::closedUndone, x -> x.write(1, 5), CLOSED);
        CHECK.about("write: CLOSED before TURN: it is done");
        refused(RefusalsTest::closedDone, x -> x.write(0, 5), CLOSED);
        refused(RefusalsTest::closedDone, x -> x.write(1, 5), CLOSED);
        CHECK.about("write: CLOSED before FULL");
        refused(x -> {
            full(x);
            Scenes.ticks(x, 6);
        }, x -> x.write(2, 5), CLOSED);
        CHECK.about("write: CLOSED before TURN before FULL");
        refused(x -> {
            full(x);
            Scenes.ticks(x, 6);
        }, x -> x.write(3, 5), CLOSED);
        refused(x -> {
            full(x);
            Scenes.ticks(x, 30);
        }, x -> x.write(0, 5), CLOSED);
    }

    private static void writeTurn() {
        CHECK.about("write: TURN: it is done");
        refused(RefusalsTest::agreed, x -> x.write(0, 5), TURN);
        refused(RefusalsTest::agreed, x -> x.write(1, 5), TURN);
        refused(x -> Scenes.agree(x, 0), x -> x.write(0, 5), TURN);
        refused(x -> Scenes.agree(x, 0), x -> x.write(1, 5), TURN);
        CHECK.about("write: TURN: the other end's message is next");
        for (int pattern = 0; pattern <= 1; pattern++) {
            int of = pattern;
            for (int step = 0; step < Scenes.lengthOf(pattern); step++) {
                int steps = step;
                refused(x -> Scenes.talk(x, of, steps), x -> x.write(1 - steps % 2, 5), TURN);
            }
        }
        CHECK.about("write: TURN before FULL");
        refused(RefusalsTest::full, x -> x.write(0, 5), TURN);
        refused(RefusalsTest::full, x -> x.write(1, 5), TURN);
        refused(RefusalsTest::full, x -> x.write(3, 5), TURN);
    }

    private static void writeFull() {
        CHECK.about("write: FULL (Refused, no ephemeral key is made.)");
        refused(RefusalsTest::full, x -> x.write(2, 5), FULL);
        Talks x = new Talks(CHECK);
        full(x);
        x.due(x.write(2, 5), FULL);
        x.due(x.give(11), false);
        x.due(x.give(10), true);
        x.due(x.steps(2), 0);
    }

    private static void sendBad() {
        CHECK.about("send: BAD: there is no such session");
        int[] none = {-1, 2, 12, LOW, HIGH};
        for (int session : none) {
            refused(RefusalsTest::agreed, x -> x.send(session, 5), BAD);
        }
        refused(RefusalsTest::nothing, x -> x.send(0, 5), BAD);
        CHECK.about("send: BAD before FULL");
        refused(RefusalsTest::full, x -> x.send(4, 5), BAD);
    }

    private static void sendClosed() {
        CHECK.about("send: CLOSED");
        refused(RefusalsTest::closedDone, x -> x.send(0, 5), CLOSED);
        refused(RefusalsTest::closedDone, x -> x.send(1, 5), CLOSED);
        CHECK.about("send: CLOSED before TURN");
        refused(RefusalsTest::closedUndone, x -> x.send(0, 5), CLOSED);
        refused(RefusalsTest::closedUndone, x -> x.send(1, 5), CLOSED);
        CHECK.about("send: CLOSED before FULL");
        refused(x -> {
            full(x);
            Scenes.ticks(x, 30);
        }, x -> x.send(0, 5), CLOSED);
        CHECK.about("send: CLOSED before TURN before FULL");
        refused(x -> {
            full(x);
            Scenes.ticks(x, 6);
        }, x -> x.send(2, 5), CLOSED);
    }

    private static void sendTurn() {
        CHECK.about("send: TURN: it is not done");
        for (int pattern = 0; pattern <= 1; pattern++) {
            int of = pattern;
            for (int step = 0; step < Scenes.lengthOf(pattern); step++) {
                int steps = step;
                refused(x -> Scenes.talk(x, of, steps), x -> x.send(0, 5), TURN);
                refused(x -> Scenes.talk(x, of, steps), x -> x.send(1, 5), TURN);
            }
        }
        CHECK.about("send: TURN before FULL");
        refused(RefusalsTest::full, x -> x.send(2, 5), TURN);
        refused(RefusalsTest::full, x -> x.send(3, 5), TURN);
    }

    private static void sendFull() {
        CHECK.about("send: FULL");
        refused(RefusalsTest::full, x -> x.send(0, 5), FULL);
        refused(RefusalsTest::full, x -> x.send(1, 5), FULL);
    }

    private static void deliverBad() {
        CHECK.about("deliver: BAD: there is no such message or session");
        int[] noMessage = {-1, 1, 60, LOW, HIGH};
        for (int message : noMessage) {
            refused(RefusalsTest::midway, x -> x.deliver(message, 0), BAD);
            refused(RefusalsTest::midway, x -> x.deliver(message, 1), BAD);
        }
        int[] noSession = {-1, 2, 12, LOW, HIGH};
        for (int session : noSession) {
            refused(RefusalsTest::midway, x -> x.deliver(0, session), BAD);
        }
        refused(RefusalsTest::nothing, x -> x.deliver(0, 0), BAD);
        refused(RefusalsTest::twelve, x -> x.deliver(0, 11), BAD);
        refused(RefusalsTest::full, x -> x.deliver(60, 1), BAD);
        refused(RefusalsTest::full, x -> x.deliver(59, 4), BAD);
        CHECK.about("deliver: BAD before CLOSED");
        refused(RefusalsTest::closedUndone, x -> x.deliver(1, 1), BAD);
        refused(RefusalsTest::closedUndone, x -> x.deliver(-1, 1), BAD);
        refused(RefusalsTest::closedDone, x -> x.deliver(3, 1), BAD);
    }

    private static void deliverClosed() {
        CHECK.about("deliver: CLOSED");
        refused(RefusalsTest::closedUndone, x -> x.deliver(0, 1), CLOSED);
        refused(RefusalsTest::closedUndone, x -> x.deliver(0, 0), CLOSED);
        refused(RefusalsTest::closedDone, x -> x.deliver(2, 1), CLOSED);
        refused(RefusalsTest::closedDone, x -> x.deliver(2, 0), CLOSED);
        refused(RefusalsTest::closedDone, x -> x.deliver(0, 1), CLOSED);
    }

    private static void deliverOwnNext() {
        CHECK.about("deliver: 0 (nothing changes then, also when its own message is next)");
        for (int pattern = 0; pattern <= 1; pattern++) {
            int of = pattern;
            refused(x -> {
                x.start(of, true, 1, 2, 7);
                x.start(of, false, 2, 0, 7);
                x.start(of, true, 1, 2, 7);
                x.write(2, 5);
            }, x -> x.deliver(0, 0), 0);
            refused(x -> Scenes.talk(x, of, 1), x -> x.deliver(0, 1), 0);
            refused(x -> Scenes.talk(x, of, 1), x -> x.deliver(0, 0), 0);
        }
        refused(x -> Scenes.talk(x, 0, 2), x -> x.deliver(1, 0), 0);
        refused(x -> Scenes.talk(x, 0, 2), x -> x.deliver(0, 0), 0);
    }

    private static void deliverUnread() {
        CHECK.about("When something is not as it must be, nothing of the session changes");
        for (int pattern = 0; pattern <= 1; pattern++) {
            for (int step = 0; step < Scenes.lengthOf(pattern); step++) {
                for (int part = 0; part < Scenes.partsOf(pattern, step); part++) {
                    deliverSpoilt(pattern, step, part);
                }
                deliverOfOtherLength(pattern, step);
            }
        }
    }

    /** The message of that step is written, and so is a copy with a strange seal for one part. */
    private static void deliverSpoilt(int pattern, int step, int part) {
        refused(x -> {
            Scenes.talk(x, pattern, step);
            x.start(1, true, 3, 4, 0);
            int strange = x.write(2, 0);
            x.splice(x.write(step % 2, 100 + step), part, strange, 1);
        }, x -> x.deliver(step + 2, 1 - step % 2), 0);
    }

    /** The message of that step is written, and so is one with a part more or less. */
    private static void deliverOfOtherLength(int pattern, int step) {
        boolean ofTwo = Scenes.partsOf(pattern, step) == 3;
        refused(x -> {
            Scenes.talk(x, pattern, step);
            x.start(ofTwo ? 0 : 1, true, 3, 4, 0);
            int strange = x.write(2, 0);
            int message = x.write(step % 2, 100 + step);
            x.splice(x.splice(strange, 0, message, 0), 1, message, 1);
        }, x -> x.deliver(step + 3, 1 - step % 2), 0);
    }

    private static void deliverUnaccepted() {
        CHECK.about("deliver: 0 when it is not accepted (nothing changes then)");
        Consumer<Talks> scene = x -> {
            Scenes.agree(x, 1);
            for (int c = 0; c < 10; c++) {
                x.send(0, 200 + c);
            }
            x.deliver(2 + 8, 1);
            x.replace(2 + 9, 1, 5);
            x.replace(2 + 7, 0, 9);
        };
        refused(scene, x -> x.deliver(2, 1), 0);
        refused(scene, x -> x.deliver(2 + 8, 1), 0);
        refused(scene, x -> x.deliver(2 + 9, 0), 0);
        refused(scene, x -> x.deliver(12, 1), 0);
        refused(scene, x -> x.deliver(13, 1), 0);
        refused(scene, x -> x.deliver(0, 1), 0);
        refused(scene, x -> x.deliver(1, 0), 0);
    }

    private static void spliceBad() {
        CHECK.about("splice: BAD: there is no such message or part");
        int[] noMessage = {-1, 2, LOW, HIGH};
        for (int message : noMessage) {
            refused(RefusalsTest::agreed, x -> x.splice(message, 0, 0, 0), BAD);
            refused(RefusalsTest::agreed, x -> x.splice(0, 0, message, 0), BAD);
        }
        int[] noPart = {-1, 2, LOW, HIGH};
        for (int part : noPart) {
            refused(RefusalsTest::agreed, x -> x.splice(1, part, 0, 2), BAD);
            refused(RefusalsTest::agreed, x -> x.splice(0, 2, 1, part), BAD);
        }
        refused(RefusalsTest::agreed, x -> x.splice(0, 3, 1, 1), BAD);
        refused(RefusalsTest::agreed, x -> x.splice(1, 1, 0, 3), BAD);
        refused(RefusalsTest::nothing, x -> x.splice(0, 0, 0, 0), BAD);
        CHECK.about("splice: BAD before FULL");
        refused(RefusalsTest::full, x -> x.splice(60, 0, 0, 0), BAD);
        refused(RefusalsTest::full, x -> x.splice(0, 3, 0, 0), BAD);
        refused(RefusalsTest::full, x -> x.splice(0, 0, 60, 0), BAD);
        refused(RefusalsTest::full, x -> x.splice(0, 0, 0, 3), BAD);
        refused(RefusalsTest::full, x -> x.splice(0, -1, 0, 0), BAD);
        refused(RefusalsTest::full, x -> x.splice(0, 0, 0, -1), BAD);
    }

    private static void spliceFull() {
        CHECK.about("splice: FULL");
        refused(RefusalsTest::full, x -> x.splice(0, 0, 1, 1), FULL);
        refused(RefusalsTest::full, x -> x.splice(59, 2, 59, 0), FULL);
    }

    private static void replaceBad() {
        CHECK.about("replace: BAD: there is no such message or part");
        int[] none = {-1, 2, LOW, HIGH};
        for (int number : none) {
            refused(RefusalsTest::agreed, x -> x.replace(number, 0, 5), BAD);
            refused(RefusalsTest::agreed, x -> x.replace(1, number, 5), BAD);
        }
        refused(RefusalsTest::agreed, x -> x.replace(0, 3, 5), BAD);
        refused(RefusalsTest::nothing, x -> x.replace(0, 0, 5), BAD);
        CHECK.about("replace: BAD before FULL");
        refused(RefusalsTest::full, x -> x.replace(60, 0, 5), BAD);
        refused(RefusalsTest::full, x -> x.replace(0, 3, 5), BAD);
        refused(RefusalsTest::full, x -> x.replace(0, -1, 5), BAD);
    }

    private static void replaceFull() {
        CHECK.about("replace: FULL");
        refused(RefusalsTest::full, x -> x.replace(0, 0, 5), FULL);
        refused(RefusalsTest::full, x -> x.replace(59, 2, 5), FULL);
    }

    private static void giveFalse() {
        CHECK.about("give: false when it was, or is no key");
        int[] none = {0, -1, 10, 20, 21, LOW, HIGH};
        for (int key : none) {
            refused(RefusalsTest::midway, x -> x.give(key) ? 1 : 0, 0);
        }
        Consumer<Talks> given = x -> {
            Scenes.agree(x, 1);
            x.give(2);
            x.give(10);
        };
        refused(given, x -> x.give(2) ? 1 : 0, 0);
        refused(given, x -> x.give(10) ? 1 : 0, 0);
    }

    private static void asking() {
        CHECK.about("asking changes nothing");
        Consumer<Talks> scene = x -> {
            Scenes.talk(x, 0, 2);
            x.give(9);
        };
        refused(scene, x -> x.state(0), 0);
        refused(scene, x -> x.steps(0), 2);
        refused(scene, x -> x.peer(0), 2);
        refused(scene, x -> x.payload(0), 101);
        refused(scene, x -> x.accepted(0), 1);
        refused(scene, x -> x.match(0, 1) ? 1 : 0, 0);
        refused(scene, x -> x.open(0) ? 1 : 0, 0);
        refused(scene, x -> x.parts(1), 3);
        refused(scene, x -> x.sees(1, 1), 3);
        refused(scene, x -> x.shown(1, 1), 2);
        refused(scene, x -> x.same(1, 1, 1, 1) ? 1 : 0, 1);
    }
}
