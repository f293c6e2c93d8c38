/** Each promise by itself: ordinary inputs, the edges that the document names, wrong inputs. */
public final class PromisesTest {
    private static final int BAD = SealedTalks.BAD;
    private static final int CLOSED = SealedTalks.CLOSED;
    private static final int TURN = SealedTalks.TURN;
    private static final int FULL = SealedTalks.FULL;
    private static final int[] NOWHERE = {-1, 60, 12, Integer.MIN_VALUE, Integer.MAX_VALUE};

    private static final Check CHECK = new Check();

    public static void main(String[] args) {
        newObject();
        start();
        startPrologues();
        startResponderKey();
        write();
        writeFull();
        send();
        sendFull();
        deliverPattern0();
        deliverPattern1();
        deliverRefused();
        deliverSpoiled();
        deliverBareFirstMessage();
        deliverWindow();
        deliverTransportSpoiled();
        deliverManyInVain();
        deliverMixedTalks();
        splice();
        replace();
        give();
        tick();
        state();
        steps();
        peer();
        payload();
        accepted();
        match();
        openPattern0();
        openPattern1();
        openOwnKeys();
        parts();
        sees();
        shown();
        same();
        sealsAreBound();
        CHECK.end();
    }

    /** Sessions 0 and 1 with static keys 1 and 2 and ephemeral ones 9 and 10; messages 0, 1, 2. */
    private static SealedTalks donePattern0() {
        SealedTalks x = new SealedTalks();
        x.start(0, true, 1, 0, 7);
        x.start(0, false, 2, 0, 7);
        x.deliver(x.write(0, 11), 1);
        x.deliver(x.write(1, 22), 0);
        x.deliver(x.write(0, 33), 1);
        return x;
    }

    /** Sessions 0 and 1 with static keys 1 and 2 and ephemeral ones 9 and 10; messages 0, 1. */
    private static SealedTalks donePattern1() {
        SealedTalks x = new SealedTalks();
        x.start(1, true, 1, 2, 7);
        x.start(1, false, 2, 0, 7);
        x.deliver(x.write(0, 11), 1);
        x.deliver(x.write(1, 22), 0);
        return x;
    }

    private static int tickTimes(SealedTalks x, int times) {
        int closed = 0;
        for (int i = 0; i < times; i++) {
            closed += x.tick();
        }
        return closed;
    }

    /** Makes messages as message 0 until there are 60. */
    private static void fill(SealedTalks x) {
        for (int i = 0; i < 60; i++) {
            x.replace(0, 0, 5);
        }
    }

    private static void due(String call, long got, long want) {
        CHECK.due(call, got, want);
    }

    private static void due(String call, boolean got, boolean want) {
        CHECK.due(call, got, want);
    }

    private static void newObject() {
        CHECK.about("promise 1");
        SealedTalks x = new SealedTalks();
        due("state(0)", x.state(0), BAD);
        due("parts(0)", x.parts(0), BAD);
        due("tick()", x.tick(), 0);
        due("give(9)", x.give(9), false);
        for (int key = 1; key <= 8; key++) {
            due("give(" + key + ")", x.give(key), true);
        }
        due("start", x.start(0, true, 1, 0, 0), 0);
        due("write", x.write(0, 0), 0);
        SealedTalks y = new SealedTalks();
        due("other object's state(0)", y.state(0), BAD);
        due("other object's parts(0)", y.parts(0), BAD);
        due("other object's give(1)", y.give(1), true);
    }

    private static void start() {
        CHECK.about("promise 2");
        SealedTalks x = new SealedTalks();
        int[] noPattern = {-1, 2, 3, Integer.MIN_VALUE, Integer.MAX_VALUE};
        for (int pattern : noPattern) {
            due("pattern " + pattern, x.start(pattern, true, 1, 1, 0), BAD);
            due("pattern " + pattern, x.start(pattern, false, 1, 1, 0), BAD);
        }
        int[] noKey = {0, 9, -1, Integer.MIN_VALUE, Integer.MAX_VALUE};
        for (int key : noKey) {
            due("own " + key, x.start(0, true, key, 1, 0), BAD);
            due("own " + key, x.start(0, false, key, 1, 0), BAD);
            due("own " + key, x.start(1, true, key, 1, 0), BAD);
            due("own " + key, x.start(1, false, key, 1, 0), BAD);
            due("remote " + key, x.start(1, true, 1, key, 0), BAD);
        }
        due("refused starts take no number", x.state(0), BAD);
        due("remote not looked at", x.start(0, true, 1, 0, 0), 0);
        due("remote not looked at", x.start(0, false, 8, 9, 0), 1);
        due("remote not looked at", x.start(1, false, 1, -1, 0), 2);
        due("remote is looked at", x.start(1, true, 8, 8, Integer.MIN_VALUE), 3);
        due("remote is looked at", x.start(1, true, 1, 1, Integer.MAX_VALUE), 4);
        for (int i = 5; i < 12; i++) {
            due("start", x.start(i % 2, i % 3 == 0, 1 + i % 8, 1, i), i);
        }
        due("13th", x.start(0, true, 1, 1, 0), FULL);
        due("BAD is named before FULL", x.start(2, true, 1, 1, 0), BAD);
        due("BAD is named before FULL", x.start(0, true, 0, 1, 0), BAD);
        due("BAD is named before FULL", x.start(1, true, 1, 0, 0), BAD);
        due("state(12)", x.state(12), BAD);
        tickTimes(x, 6);
        due("closed ones count too", x.start(0, true, 1, 1, 0), FULL);
    }

    private static void startPrologues() {
        CHECK.about("promise 2, prologues");
        SealedTalks x = new SealedTalks();
        x.start(1, true, 1, 2, 7);
        x.start(1, false, 2, 0, 8);
        x.start(1, false, 2, 0, 7);
        int m = x.write(0, 1);
        due("another prologue", x.deliver(m, 1), 0);
        due("the same prologue", x.deliver(m, 2), 1);
        SealedTalks y = new SealedTalks();
        y.start(0, true, 1, 0, 0);
        y.start(0, false, 2, 0, 1);
        due("bare message", y.deliver(y.write(0, 1), 1), 1);
        due("first sealed one", y.deliver(y.write(1, 1), 0), 0);
    }

    private static void startResponderKey() {
        CHECK.about("promise 2, the responder's key");
        SealedTalks x = new SealedTalks();
        x.start(1, true, 1, 2, 7);
        x.start(1, false, 3, 2, 7);
        x.start(1, false, 2, 5, 7);
        int m = x.write(0, 1);
        due("another responder", x.deliver(m, 1), 0);
        due("the known responder", x.deliver(m, 2), 1);
    }

    private static void write() {
        CHECK.about("promise 3");
        SealedTalks x = new SealedTalks();
        x.start(0, true, 1, 0, 7);
        x.start(0, false, 2, 0, 7);
        for (int session : NOWHERE) {
            due("write(" + session + ")", x.write(session, 1), BAD);
        }
        due("no such session", x.write(2, 1), BAD);
        due("responder first", x.write(1, 1), TURN);
        due("a refused write makes no key", x.give(9), false);
        due("initiator", x.write(0, 1), 0);
        due("its key", x.shown(0, 0), 9);
        due("initiator again", x.write(0, 1), TURN);
        due("deliver", x.deliver(0, 1), 1);
        due("responder", x.write(1, -5), 1);
        due("its key", x.shown(1, 0), 10);
        due("responder again", x.write(1, 1), TURN);
        x.deliver(1, 0);
        due("payload", x.payload(0), -5);
        due("third", x.write(0, Integer.MIN_VALUE), 2);
        due("third makes no key", x.give(11), false);
        due("done", x.write(0, 1), TURN);
        x.deliver(2, 1);
        due("payload", x.payload(1), Integer.MIN_VALUE);
        due("done", x.write(1, 1), TURN);
        SealedTalks y = new SealedTalks();
        y.start(0, true, 1, 0, 0);
        y.start(0, false, 1, 0, 0);
        tickTimes(y, 6);
        due("closed", y.write(0, 1), CLOSED);
        due("CLOSED is named before TURN", y.write(1, 1), CLOSED);
        due("closed makes no key", y.give(9), false);
    }

    private static void writeFull() {
        CHECK.about("promise 3, full");
        SealedTalks x = new SealedTalks();
        x.start(0, true, 1, 0, 0);
        x.start(0, true, 1, 0, 0);
        x.start(0, false, 1, 0, 0);
        x.write(0, 1);
        fill(x);
        due("full", x.write(1, 1), FULL);
        due("full makes no key", x.give(10), false);
        due("full makes no step", x.steps(1), 0);
        due("TURN is named before FULL", x.write(0, 1), TURN);
        due("TURN is named before FULL", x.write(2, 1), TURN);
        due("BAD is named before FULL", x.write(3, 1), BAD);
        tickTimes(x, 6);
        due("CLOSED is named before FULL", x.write(1, 1), CLOSED);
    }

    private static void send() {
        CHECK.about("promise 4");
        SealedTalks x = new SealedTalks();
        for (int session : NOWHERE) {
            due("send(" + session + ")", x.send(session, 1), BAD);
        }
        x.start(1, true, 1, 2, 7);
        x.start(1, false, 2, 0, 7);
        due("not done", x.send(0, 1), TURN);
        x.deliver(x.write(0, 1), 1);
        due("not done", x.send(1, 1), TURN);
        x.write(1, 1);
        due("done by writing", x.send(1, 70), 2);
        due("not done", x.send(0, 1), TURN);
        x.deliver(1, 0);
        due("done by reading", x.send(0, 71), 3);
        due("second", x.send(1, 72), 4);
        due("parts", x.parts(4), 2);
        due("first counter", x.shown(2, 0), 0);
        due("own counter", x.shown(3, 0), 0);
        due("second counter", x.shown(4, 0), 1);
        due("counter is a NUM", x.sees(4, 0), 1);
        due("payload is sealed", x.sees(4, 1), 4);
        due("deliver", x.deliver(4, 0), 1);
        due("payload", x.payload(0), 72);
        tickTimes(x, 30);
        due("closed", x.send(0, 1), CLOSED);
        x.start(0, true, 1, 0, 0);
        tickTimes(x, 6);
        due("CLOSED is named before TURN", x.send(2, 1), CLOSED);
    }

    private static void sendFull() {
        CHECK.about("promise 4, full");
        SealedTalks x = donePattern1();
        x.start(0, true, 1, 0, 0);
        for (int i = 2; i < 60; i++) {
            due("send", x.send(i % 2, i), i);
        }
        due("full", x.send(0, 1), FULL);
        due("full", x.send(1, 1), FULL);
        due("parts(60)", x.parts(60), BAD);
        due("TURN is named before FULL", x.send(2, 1), TURN);
        due("BAD is named before FULL", x.send(3, 1), BAD);
        for (int i = 2; i < 60; i++) {
            due("deliver", x.deliver(i, 1 - i % 2), 1);
            due("payload", x.payload(1 - i % 2), i);
        }
        tickTimes(x, 30);
        due("CLOSED is named before FULL", x.send(0, 1), CLOSED);
    }

    private static void deliverPattern0() {
        CHECK.about("promise 5, pattern 0");
        SealedTalks x = new SealedTalks();
        x.start(0, true, 1, 0, 7);
        x.start(0, false, 2, 0, 7);
        x.write(0, 11);
        due("to the writer", x.deliver(0, 0), 0);
        due("to one whose own message is next", x.deliver(0, x.start(0, true, 3, 0, 7)), 0);
        due("no step of it", x.steps(2), 0);
        due("first", x.deliver(0, 1), 1);
        due("read before", x.deliver(0, 1), 0);
        x.write(1, 22);
        due("to the writer", x.deliver(1, 1), 0);
        due("three parts for two", x.deliver(x.replace(1, 1, 5), x.start(0, false, 3, 0, 7)), 0);
        due("no step of it", x.steps(3), 0);
        due("second", x.deliver(1, 0), 1);
        due("read before", x.deliver(1, 0), 0);
        x.write(0, 33);
        due("to the writer, who is done", x.deliver(3, 0), 0);
        due("third", x.deliver(3, 1), 1);
        due("read before", x.deliver(3, 1), 0);
        due("a message of the pattern to a done one", x.deliver(0, 1), 0);
        due("a message of the pattern to a done one", x.deliver(1, 0), 0);
        due("match", x.match(0, 1), true);
    }

    private static void deliverPattern1() {
        CHECK.about("promise 5, pattern 1");
        SealedTalks x = new SealedTalks();
        x.start(1, true, 1, 2, 7);
        x.start(1, false, 2, 0, 7);
        x.start(0, false, 2, 0, 7);
        x.write(0, 11);
        due("to the writer", x.deliver(0, 0), 0);
        due("to another pattern", x.deliver(0, 2), 0);
        due("first", x.deliver(0, 1), 1);
        due("read before", x.deliver(0, 1), 0);
        x.write(1, 22);
        due("to the writer, who is done", x.deliver(1, 1), 0);
        due("second", x.deliver(1, 0), 1);
        due("read before", x.deliver(1, 0), 0);
        due("match", x.match(0, 1), true);
    }

    private static void deliverRefused() {
        CHECK.about("promise 5, refused");
        SealedTalks x = new SealedTalks();
        x.start(0, true, 1, 0, 7);
        x.start(0, false, 2, 0, 7);
        due("no message", x.deliver(0, 0), BAD);
        x.write(0, 11);
        for (int number : NOWHERE) {
            due("message " + number, x.deliver(number, 1), BAD);
            due("session " + number, x.deliver(0, number), BAD);
        }
        due("message 1", x.deliver(1, 1), BAD);
        due("session 2", x.deliver(0, 2), BAD);
        tickTimes(x, 6);
        due("closed", x.deliver(0, 1), CLOSED);
        due("closed, to the writer", x.deliver(0, 0), CLOSED);
        due("BAD is named before CLOSED", x.deliver(1, 1), BAD);
        due("nothing was read", x.accepted(1), 0);
    }

    private static void deliverSpoiled() {
        CHECK.about("promise 5, spoiled");
        SealedTalks x = new SealedTalks();
        x.start(0, true, 1, 0, 7);
        x.start(0, false, 2, 0, 7);
        x.deliver(x.write(0, 11), 1);
        x.write(1, 22);
        for (int part = 0; part < 3; part++) {
            due("a NUM at " + part, x.deliver(x.replace(1, part, 22), 0), 0);
        }
        due("another e", x.deliver(x.splice(1, 0, 0, 0), 0), 0);
        due("seals in disorder", x.deliver(x.splice(1, 1, 1, 2), 0), 0);
        due("seals in disorder", x.deliver(x.splice(1, 2, 1, 1), 0), 0);
        due("a bare key", x.deliver(x.splice(1, 1, 1, 0), 0), 0);
        due("too few parts", x.deliver(0, 0), 0);
        due("nothing of the session changed", x.steps(0), 1);
        due("nothing of the session changed", x.peer(0), 0);
        due("nothing of the session changed", x.payload(0), 0);
        due("nothing of the session changed", x.accepted(0), 0);
        due("as it was written", x.deliver(1, 0), 1);
        int last = x.write(0, 33);
        due("a NUM for s", x.deliver(x.replace(last, 0, 1), 1), 0);
        due("a NUM for the payload", x.deliver(x.replace(last, 1, 33), 1), 0);
        due("too many parts", x.deliver(1, 1), 0);
        due("nothing of the session changed", x.peer(1), 0);
        due("a copy", x.deliver(x.splice(last, 0, last, 0), 1), 1);
        due("match", x.match(0, 1), true);
    }

    private static void deliverBareFirstMessage() {
        CHECK.about("promise 5, bare");
        SealedTalks x = new SealedTalks();
        x.start(0, true, 1, 0, 7);
        x.start(0, false, 2, 0, 7);
        x.write(0, 11);
        due("a PUB for the payload", x.deliver(x.splice(0, 1, 0, 0), 1), 0);
        due("a NUM for e", x.deliver(x.splice(0, 0, 0, 1), 1), 0);
        due("another payload", x.deliver(x.replace(0, 1, 12), 1), 1);
        due("payload", x.payload(1), 12);
        due("the other end notices", x.deliver(x.write(1, 1), 0), 0);
        SealedTalks y = new SealedTalks();
        y.start(0, true, 1, 0, 7);
        y.start(0, false, 2, 0, 7);
        y.write(0, 11);
        y.replace(0, 1, 12);
        y.splice(1, 1, 0, 1);
        due("mended", y.deliver(2, 1), 1);
        due("the other end reads it", y.deliver(y.write(1, 1), 0), 1);
    }

    private static void deliverWindow() {
        CHECK.about("promise 5, window");
        SealedTalks x = donePattern1();
        for (int i = 0; i < 20; i++) {
            x.send(0, 100 + i);
        }
        due("counter 19 first", x.deliver(2 + 19, 1), 1);
        due("TOP - 8", x.deliver(2 + 11, 1), 0);
        due("TOP - 7", x.deliver(2 + 12, 1), 1);
        due("TOP - 7 again", x.deliver(2 + 12, 1), 0);
        due("TOP again", x.deliver(2 + 19, 1), 0);
        due("payload", x.payload(1), 112);
        due("TOP stays", x.deliver(2 + 11, 1), 0);
        due("TOP - 1", x.deliver(2 + 18, 1), 1);
        due("counter 0", x.deliver(2, 1), 0);
        due("accepted", x.accepted(1), 4);
        SealedTalks y = donePattern1();
        for (int i = 0; i < 9; i++) {
            y.send(1, 100 + i);
        }
        due("counter 7", y.deliver(2 + 7, 0), 1);
        due("counter 0", y.deliver(2, 0), 1);
        due("counter 8", y.deliver(2 + 8, 0), 1);
        due("counter 0 again", y.deliver(2, 0), 0);
        due("counter 1", y.deliver(2 + 1, 0), 1);
    }

    private static void deliverTransportSpoiled() {
        CHECK.about("promise 5, transport spoiled");
        SealedTalks x = donePattern1();
        x.send(0, 100);
        x.send(0, 101);
        x.send(1, 102);
        due("to the sender", x.deliver(2, 0), 0);
        int[] counters = {1, -1, 59, 60, Integer.MIN_VALUE, Integer.MAX_VALUE};
        for (int counter : counters) {
            due("counter " + counter, x.deliver(x.replace(2, 0, counter), 1), 0);
        }
        due("a NUM for the seal", x.deliver(x.replace(2, 1, 100), 1), 0);
        due("a seal for the counter", x.deliver(x.splice(2, 0, 2, 1), 1), 0);
        due("a PUB for the counter", x.deliver(x.splice(2, 0, 0, 0), 1), 0);
        due("another seal", x.deliver(x.splice(2, 1, 3, 1), 1), 0);
        due("the other direction's seal", x.deliver(x.splice(2, 1, 4, 1), 1), 0);
        due("a seal of the pattern", x.deliver(x.splice(2, 1, 1, 1), 1), 0);
        due("nothing of the session changed", x.accepted(1), 1);
        due("counter of 3 with the seal of 3", x.deliver(x.splice(x.replace(3, 0, 9), 0, 3, 0), 1), 1);
        due("counter 0", x.deliver(x.replace(2, 0, 0), 1), 1);
        due("counter 0 again", x.deliver(2, 1), 0);
        x.send(0, 103);
        int sent = x.send(0, 104);
        int longer = x.splice(x.splice(0, 0, sent, 0), 1, sent, 1);
        due("three parts", x.deliver(longer, 1), 0);
        due("two parts", x.deliver(sent, 1), 1);
    }

    /** Each of 11 sessions reads in vain what starts with each of 12 ephemeral keys. */
    private static void deliverManyInVain() {
        CHECK.about("promise 5, many in vain");
        SealedTalks x = new SealedTalks();
        x.start(0, true, 1, 0, 0);
        x.write(0, 0);
        for (int i = 1; i < 12; i++) {
            x.start(1, true, 1 + i % 8, 1 + i % 7, i);
            x.write(i, i);
            due("splice", x.splice(0, 0, 2 * i - 1, 0), 2 * i);
        }
        for (int message = 0; message <= 22; message += 2) {
            for (int i = 1; i < 12; i++) {
                due("in vain", x.deliver(message, i), 0);
            }
        }
        due("replace", x.replace(0, 1, 12345), 23);
        due("a new NUM", x.shown(23, 1), 12345);
        due("a new NUM", x.sees(23, 1), 1);
        due("the same NUM", x.same(23, 1, x.replace(0, 0, 12345), 0), true);
    }

    private static void deliverMixedTalks() {
        CHECK.about("promise 5, two talks at once");
        SealedTalks x = new SealedTalks();
        x.start(0, true, 1, 0, 7);
        x.start(0, true, 1, 0, 7);
        x.start(0, false, 2, 0, 7);
        x.start(0, false, 2, 0, 7);
        x.write(0, 1);
        x.write(1, 1);
        due("crosswise", x.deliver(1, 2), 1);
        due("crosswise", x.deliver(0, 3), 1);
        x.write(2, 2);
        x.write(3, 2);
        due("not meant", x.deliver(2, 0), 0);
        due("not meant", x.deliver(3, 1), 0);
        due("meant", x.deliver(3, 0), 1);
        due("meant", x.deliver(2, 1), 1);
        x.write(0, 3);
        x.write(1, 3);
        due("not meant", x.deliver(4, 2), 0);
        due("meant", x.deliver(4, 3), 1);
        due("meant", x.deliver(5, 2), 1);
        due("match(0, 3)", x.match(0, 3), true);
        due("match(1, 2)", x.match(1, 2), true);
        due("match(0, 2)", x.match(0, 2), false);
        x.send(0, 9);
        due("another talk's message", x.deliver(6, 2), 0);
        due("its own", x.deliver(6, 3), 1);
    }

    private static void splice() {
        CHECK.about("promise 6");
        SealedTalks x = donePattern0();
        int[] noPartOf0 = {-1, 2, 3, Integer.MIN_VALUE, Integer.MAX_VALUE};
        for (int part : noPartOf0) {
            due("part i " + part, x.splice(0, part, 1, 0), BAD);
            due("part j " + part, x.splice(1, 0, 0, part), BAD);
        }
        for (int message : NOWHERE) {
            due("message a " + message, x.splice(message, 0, 0, 0), BAD);
            due("message b " + message, x.splice(0, 0, message, 0), BAD);
        }
        due("message 3", x.splice(3, 0, 0, 0), BAD);
        due("splice", x.splice(1, 2, 0, 1), 3);
        due("as many parts as a", x.parts(3), 3);
        due("part 0 as in a", x.same(3, 0, 1, 0), true);
        due("part 1 as in a", x.same(3, 1, 1, 1), true);
        due("part 2 as in b", x.same(3, 2, 0, 1), true);
        due("a stays", x.sees(1, 2), 4);
        due("of a made one", x.splice(3, 0, 3, 2), 4);
        due("shown", x.shown(4, 0), 11);
        due("shown", x.shown(4, 2), 11);
        fill(x);
        due("full", x.splice(0, 0, 0, 0), FULL);
        due("BAD is named before FULL", x.splice(0, 2, 0, 0), BAD);
        due("BAD is named before FULL", x.splice(0, 0, 0, 2), BAD);
        due("BAD is named before FULL", x.splice(60, 0, 0, 0), BAD);
        due("parts(60)", x.parts(60), BAD);
    }

    private static void replace() {
        CHECK.about("promise 7");
        SealedTalks x = donePattern0();
        int[] noPartOf1 = {-1, 3, 4, Integer.MIN_VALUE, Integer.MAX_VALUE};
        for (int part : noPartOf1) {
            due("part " + part, x.replace(1, part, 0), BAD);
        }
        for (int message : NOWHERE) {
            due("message " + message, x.replace(message, 0, 0), BAD);
        }
        due("message 3", x.replace(3, 0, 0), BAD);
        due("replace", x.replace(1, 1, Integer.MIN_VALUE), 3);
        due("as many parts as a", x.parts(3), 3);
        due("part 0 as in a", x.same(3, 0, 1, 0), true);
        due("part 1 is a NUM", x.sees(3, 1), 1);
        due("part 1 is v", x.shown(3, 1), Integer.MIN_VALUE);
        due("part 2 as in a", x.same(3, 2, 1, 2), true);
        due("a stays", x.sees(1, 1), 4);
        due("NUM 11 is NUM 11", x.same(x.replace(1, 0, 11), 0, 0, 1), true);
        for (int i = 5; i < 60; i++) {
            due("replace", x.replace(0, 0, i), i);
            due("shown", x.shown(i, 0), i);
        }
        due("full", x.replace(0, 0, 0), FULL);
        due("BAD is named before FULL", x.replace(0, 2, 0), BAD);
        due("BAD is named before FULL", x.replace(60, 0, 0), BAD);
    }

    private static void give() {
        CHECK.about("promise 8");
        SealedTalks x = new SealedTalks();
        int[] noKey = {0, -1, 9, 10, 20, 21, Integer.MIN_VALUE, Integer.MAX_VALUE};
        for (int key : noKey) {
            due("give(" + key + ")", x.give(key), false);
        }
        due("give(8)", x.give(8), true);
        due("give(8) again", x.give(8), false);
        for (int i = 0; i < 12; i++) {
            x.start(0, true, 1, 0, 0);
            due("not made yet", x.give(9 + i), false);
            x.write(i, 0);
            due("key", x.shown(i, 0), 9 + i);
            due("made", x.give(9 + i), true);
            due("again", x.give(9 + i), false);
        }
        due("give(21)", x.give(21), false);
    }

    private static void tick() {
        CHECK.about("promise 9");
        SealedTalks x = new SealedTalks();
        due("no sessions", x.tick(), 0);
        x.start(1, true, 1, 2, 0);
        x.start(1, false, 2, 0, 0);
        x.tick();
        x.tick();
        x.start(0, true, 1, 0, 0);
        due("ticks 3 to 5", tickTimes(x, 3), 0);
        x.deliver(x.write(0, 1), 1);
        x.write(1, 1);
        due("6th: the one that is not done", x.tick(), 1);
        due("state(0)", x.state(0), 2);
        due("state(1)", x.state(1), 1);
        due("7th", x.tick(), 0);
        due("6th after the later start", x.tick(), 1);
        due("until the 29th after done", tickTimes(x, 26), 0);
        due("state(1)", x.state(1), 1);
        due("30th after done", x.tick(), 1);
        due("state(1)", x.state(1), 2);
        due("later", tickTimes(x, 40), 0);
        SealedTalks y = new SealedTalks();
        for (int i = 0; i < 12; i++) {
            y.start(0, i % 2 == 0, 1, 0, 0);
        }
        y.deliver(y.write(0, 1), 1);
        due("a step that does not end it", tickTimes(y, 5), 0);
        due("all at once", y.tick(), 12);
    }

    private static void state() {
        CHECK.about("promise 10");
        SealedTalks x = new SealedTalks();
        for (int session : NOWHERE) {
            due("state(" + session + ")", x.state(session), BAD);
        }
        x.start(0, true, 1, 0, 0);
        x.start(0, false, 2, 0, 0);
        due("started", x.state(0), 0);
        due("none", x.state(2), BAD);
        x.deliver(x.write(0, 1), 1);
        x.deliver(x.write(1, 1), 0);
        due("two steps", x.state(0), 0);
        x.write(0, 1);
        due("wrote the last", x.state(0), 1);
        due("has not read it", x.state(1), 0);
        tickTimes(x, 6);
        due("done stays", x.state(0), 1);
        due("closed", x.state(1), 2);
        tickTimes(x, 24);
        due("closed", x.state(0), 2);
    }

    private static void steps() {
        CHECK.about("promise 11");
        SealedTalks x = new SealedTalks();
        for (int session : NOWHERE) {
            due("steps(" + session + ")", x.steps(session), BAD);
        }
        x.start(0, true, 1, 0, 0);
        x.start(0, false, 2, 0, 0);
        due("started", x.steps(0), 0);
        x.write(0, 1);
        due("wrote", x.steps(0), 1);
        due("not read", x.steps(1), 0);
        x.deliver(0, 0);
        x.write(0, 1);
        due("refused", x.steps(0), 1);
        x.deliver(0, 1);
        due("read", x.steps(1), 1);
        x.deliver(x.write(1, 1), 0);
        x.deliver(x.write(0, 1), 1);
        due("all", x.steps(0), 3);
        due("all", x.steps(1), 3);
        x.deliver(x.send(0, 1), 1);
        due("transport is no step", x.steps(0), 3);
        due("transport is no step", x.steps(1), 3);
        tickTimes(x, 30);
        due("closed", x.steps(0), 3);
        due("pattern 1", donePattern1().steps(0), 2);
        due("pattern 1", donePattern1().steps(1), 2);
    }

    private static void peer() {
        CHECK.about("promise 12");
        SealedTalks x = new SealedTalks();
        for (int session : NOWHERE) {
            due("peer(" + session + ")", x.peer(session), BAD);
        }
        x.start(0, true, 3, 5, 0);
        x.start(0, false, 4, 5, 0);
        x.start(1, true, 3, 5, 0);
        x.start(1, false, 5, 6, 0);
        due("initiator of 0", x.peer(0), 0);
        due("responder of 0", x.peer(1), 0);
        due("initiator of 1", x.peer(2), 5);
        due("responder of 1", x.peer(3), 0);
        x.deliver(x.write(0, 1), 1);
        due("first of 0", x.peer(1), 0);
        x.deliver(x.write(1, 1), 0);
        due("second of 0", x.peer(0), 4);
        due("second of 0", x.peer(1), 0);
        x.deliver(x.write(0, 1), 1);
        due("third of 0", x.peer(1), 3);
        x.deliver(x.write(2, 1), 3);
        due("first of 1", x.peer(3), 3);
        tickTimes(x, 6);
        due("closed", x.peer(2), 5);
        due("closed", x.peer(3), 3);
    }

    private static void payload() {
        CHECK.about("promise 13");
        SealedTalks x = new SealedTalks();
        for (int session : NOWHERE) {
            due("payload(" + session + ")", x.payload(session), 0);
        }
        x.start(1, true, 1, 2, 0);
        x.start(1, false, 2, 0, 0);
        due("none", x.payload(0), 0);
        x.write(0, 41);
        due("writing is not reading", x.payload(0), 0);
        x.deliver(0, 1);
        due("read", x.payload(1), 41);
        x.deliver(x.write(1, -42), 0);
        due("read", x.payload(0), -42);
        x.send(0, 43);
        x.send(0, 44);
        due("not accepted", x.payload(1), 41);
        x.deliver(3, 1);
        due("accepted", x.payload(1), 44);
        x.deliver(2, 1);
        due("the latest, not the greatest counter", x.payload(1), 43);
        x.deliver(3, 1);
        due("refused", x.payload(1), 43);
        tickTimes(x, 30);
        due("closed", x.payload(1), 43);
    }

    private static void accepted() {
        CHECK.about("promise 14");
        SealedTalks x = new SealedTalks();
        for (int session : NOWHERE) {
            due("accepted(" + session + ")", x.accepted(session), BAD);
        }
        SealedTalks y = donePattern0();
        due("initiator read one", y.accepted(0), 1);
        due("responder read two", y.accepted(1), 2);
        y.deliver(y.send(0, 0), 1);
        due("accepted", y.accepted(1), 3);
        y.deliver(3, 1);
        y.deliver(3, 0);
        due("refused", y.accepted(1), 3);
        due("refused", y.accepted(0), 1);
        tickTimes(y, 30);
        due("closed", y.accepted(1), 3);
    }

    private static void match() {
        CHECK.about("promise 15");
        SealedTalks x = new SealedTalks();
        for (int session : NOWHERE) {
            due("match(" + session + ")", x.match(session, session), false);
        }
        x.start(1, true, 1, 2, 0);
        x.start(1, false, 2, 0, 0);
        due("none done", x.match(0, 1), false);
        x.deliver(x.write(0, 1), 1);
        x.write(1, 1);
        due("one done", x.match(0, 1), false);
        due("one done", x.match(1, 0), false);
        x.deliver(1, 0);
        due("both done", x.match(0, 1), true);
        due("both done", x.match(1, 0), true);
        due("with itself", x.match(0, 0), false);
        due("with none", x.match(0, 2), false);
        due("with none", x.match(-1, 0), false);
        tickTimes(x, 30);
        due("closed behind done", x.match(0, 1), true);
        SealedTalks y = new SealedTalks();
        y.start(1, true, 1, 2, 0);
        y.start(1, false, 2, 0, 0);
        y.deliver(y.write(0, 1), 1);
        y.write(1, 1);
        tickTimes(y, 6);
        due("closed before done", y.match(0, 1), false);
        due("closed before done", y.match(0, 0), false);
    }

    /** Whether session 0 is open when just these keys were given away. */
    private static boolean openWith(SealedTalks x, int... keys) {
        for (int key : keys) {
            x.give(key);
        }
        return x.open(0) && x.open(1);
    }

    private static void openPattern0() {
        CHECK.about("promise 16, pattern 0");
        SealedTalks x = new SealedTalks();
        for (int session : NOWHERE) {
            due("open(" + session + ")", x.open(session), false);
        }
        due("no key", openWith(donePattern0()), false);
        due("both static", openWith(donePattern0(), 1, 2), false);
        due("both ephemeral", openWith(donePattern0(), 9, 10), true);
        due("initiator's", openWith(donePattern0(), 1, 9), true);
        due("responder's", openWith(donePattern0(), 2, 10), true);
        due("initiator's ephemeral", openWith(donePattern0(), 9), false);
        due("9 and 2: no se", openWith(donePattern0(), 9, 2), false);
        due("10 and 1: no es", openWith(donePattern0(), 10, 1), false);
        due("10 alone: no es", openWith(donePattern0(), 10), false);
        due("others", openWith(donePattern0(), 3, 4, 5, 6, 7, 8), false);
        SealedTalks y = new SealedTalks();
        y.start(0, true, 1, 0, 0);
        y.give(1);
        y.write(0, 1);
        y.give(9);
        due("not done", y.open(0), false);
        tickTimes(y, 6);
        due("closed before done", y.open(0), false);
        SealedTalks z = donePattern0();
        tickTimes(z, 30);
        due("closed", z.open(0), false);
        due("closed behind done", openWith(z, 9, 10), true);
    }

    private static void openPattern1() {
        CHECK.about("promise 16, pattern 1");
        due("no key", openWith(donePattern1()), false);
        due("both static", openWith(donePattern1(), 1, 2), false);
        due("both ephemeral: no ss", openWith(donePattern1(), 9, 10), false);
        due("initiator's", openWith(donePattern1(), 1, 9), true);
        due("responder's", openWith(donePattern1(), 2, 10), true);
        due("9 and 2: no se", openWith(donePattern1(), 9, 2), false);
        due("10 and 1: no es", openWith(donePattern1(), 10, 1), false);
        due("9, 10 and 1", openWith(donePattern1(), 9, 10, 1), true);
        due("9, 10 and 2", openWith(donePattern1(), 9, 10, 2), true);
        SealedTalks x = new SealedTalks();
        x.start(1, true, 1, 2, 7);
        x.start(1, false, 2, 0, 7);
        x.give(1);
        x.deliver(x.write(0, 11), 1);
        x.give(9);
        x.deliver(x.write(1, 22), 0);
        due("given before it was done", x.open(0), true);
        due("given before it was done", x.open(1), true);
    }

    private static void openOwnKeys() {
        CHECK.about("promise 16, one key on both ends");
        SealedTalks x = new SealedTalks();
        x.start(1, true, 4, 4, 0);
        x.start(1, false, 4, 0, 0);
        x.deliver(x.write(0, 1), 1);
        x.deliver(x.write(1, 2), 0);
        due("match", x.match(0, 1), true);
        x.give(4);
        due("ee is missing", x.open(0), false);
        x.give(10);
        due("all", x.open(0), true);
    }

    private static void parts() {
        CHECK.about("promise 17");
        SealedTalks x = donePattern0();
        due("pattern 0, first", x.parts(0), 2);
        due("pattern 0, second", x.parts(1), 3);
        due("pattern 0, third", x.parts(2), 2);
        due("none", x.parts(3), BAD);
        for (int message : NOWHERE) {
            due("parts(" + message + ")", x.parts(message), BAD);
        }
        due("transport", x.parts(x.send(0, 1)), 2);
        due("spliced", x.parts(x.splice(1, 0, 0, 0)), 3);
        due("replaced", x.parts(x.replace(1, 0, 0)), 3);
        SealedTalks y = donePattern1();
        due("pattern 1, first", y.parts(0), 3);
        due("pattern 1, second", y.parts(1), 2);
    }

    private static void sees() {
        CHECK.about("promise 18");
        SealedTalks x = donePattern1();
        x.send(0, 1);
        for (int number : NOWHERE) {
            due("message " + number, x.sees(number, 0), BAD);
            due("part " + number, x.sees(0, number), BAD);
        }
        due("part 3", x.sees(0, 3), BAD);
        due("part 2 of two", x.sees(1, 2), BAD);
        due("e", x.sees(0, 0), 2);
        due("s", x.sees(0, 1), 4);
        due("payload", x.sees(0, 2), 4);
        due("e of the second, though there is a k", x.sees(1, 0), 2);
        due("payload of the second", x.sees(1, 1), 4);
        due("counter", x.sees(2, 0), 1);
        due("transport", x.sees(2, 1), 4);
        x.give(9);
        due("s, with es", x.sees(0, 1), 3);
        due("payload, without ss", x.sees(0, 2), 4);
        x.give(2);
        due("payload, with ss", x.sees(0, 2), 3);
        due("second, without se", x.sees(1, 1), 4);
        due("transport, without se", x.sees(2, 1), 4);
        x.give(10);
        due("second, with se", x.sees(1, 1), 3);
        due("transport, with se", x.sees(2, 1), 3);
        due("e is still a PUB", x.sees(0, 0), 2);
        SealedTalks y = new SealedTalks();
        y.start(1, true, 1, 2, 0);
        y.give(2);
        y.write(0, 1);
        due("given before it was written", y.sees(0, 2), 3);
    }

    private static void shown() {
        CHECK.about("promise 19");
        SealedTalks x = donePattern1();
        x.send(1, -77);
        x.send(1, -78);
        for (int number : NOWHERE) {
            due("message " + number, x.shown(number, 0), 0);
            due("part " + number, x.shown(0, number), 0);
        }
        due("part 3", x.shown(0, 3), 0);
        due("e", x.shown(0, 0), 9);
        due("e of the second", x.shown(1, 0), 10);
        due("counter", x.shown(3, 0), 1);
        due("sealed s", x.shown(0, 1), 0);
        due("sealed payload", x.shown(0, 2), 0);
        due("transport", x.shown(3, 1), 0);
        x.give(2);
        due("s", x.shown(0, 1), 1);
        due("payload", x.shown(0, 2), 11);
        due("payload of the second", x.shown(1, 1), 0);
        x.give(10);
        due("payload of the second", x.shown(1, 1), 22);
        due("transport", x.shown(3, 1), -78);
        due("replaced", x.shown(x.replace(0, 1, Integer.MAX_VALUE), 1), Integer.MAX_VALUE);
    }

    private static void same() {
        CHECK.about("promise 20");
        SealedTalks x = donePattern0();
        for (int number : NOWHERE) {
            due("message " + number, x.same(number, 0, number, 0), false);
            due("part " + number, x.same(0, number, 0, number), false);
            due("message b " + number, x.same(0, 0, number, 0), false);
        }
        due("itself", x.same(0, 0, 0, 0), true);
        due("itself", x.same(1, 1, 1, 1), true);
        due("another e", x.same(0, 0, 1, 0), false);
        due("two seals", x.same(1, 1, 1, 2), false);
        due("NUM of a PUB's key is no PUB", x.same(x.replace(0, 1, 9), 1, 0, 0), false);
        due("another NUM", x.same(3, 1, 0, 1), false);
        x.send(0, 5);
        x.send(1, 5);
        x.send(0, 5);
        due("counter 0 of both", x.same(4, 0, 5, 0), true);
        due("seals of both directions", x.same(4, 1, 5, 1), false);
        due("seals of two counters", x.same(4, 1, 6, 1), false);
        due("spliced", x.same(x.splice(4, 1, 6, 1), 1, 6, 1), true);
    }

    /** A third message is bound to all that was said before it, also to what stood there bare. */
    private static void sealsAreBound() {
        CHECK.about("binding");
        SealedTalks x = new SealedTalks();
        x.start(0, true, 1, 0, 0);
        x.start(0, false, 2, 0, 0);
        x.start(0, false, 2, 0, 0);
        x.write(0, 1);
        due("one copy", x.deliver(0, 1), 1);
        due("another payload", x.deliver(x.replace(0, 1, 2), 2), 1);
        x.write(1, 5);
        x.write(2, 5);
        due("bound to another payload", x.deliver(3, 0), 0);
        due("e of the other", x.deliver(x.splice(2, 0, 3, 0), 0), 0);
        due("as it was written", x.deliver(2, 0), 1);
        due("peer", x.peer(0), 2);
        x.write(0, 6);
        due("to the other", x.deliver(5, 2), 0);
        due("to its own", x.deliver(5, 1), 1);
        x.start(1, true, 3, 2, 0);
        x.start(1, true, 3, 2, 0);
        x.start(1, false, 2, 0, 0);
        x.write(3, 1);
        x.write(4, 1);
        due("s of another talk", x.deliver(x.splice(6, 1, 7, 1), 5), 0);
        due("e of another talk", x.deliver(x.splice(6, 0, 7, 0), 5), 0);
        due("payload of another talk", x.deliver(x.splice(6, 2, 7, 2), 5), 0);
        due("all of another talk", x.deliver(x.splice(x.splice(x.splice(6, 0, 7, 0), 1, 7, 1), 2, 7, 2), 5), 1);
    }
}
