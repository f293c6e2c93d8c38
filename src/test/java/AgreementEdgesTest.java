/** The edges of writing and reading the messages of a pattern. */
public final class AgreementEdgesTest {
    private static final int TURN = SealedTalks.TURN;
    private static final int NUM = 1;
    private static final int PUB = 2;
    private static final int CLOSED_SEAL = 4;
    private static final int[][] KINDS = {
        {PUB, NUM}, {PUB, CLOSED_SEAL, CLOSED_SEAL}, {CLOSED_SEAL, CLOSED_SEAL},
        {PUB, CLOSED_SEAL, CLOSED_SEAL}, {PUB, CLOSED_SEAL},
    };
    private static final Check CHECK = new Check();

    public static void main(String[] args) {
        for (int pattern = 0; pattern <= 1; pattern++) {
            turns(pattern);
            doneOneByOne(pattern);
            ownMessageNext(pattern);
            samePrologue(pattern);
            otherPrologue(pattern);
            for (int step = 0; step < Scenes.lengthOf(pattern); step++) {
                partsWritten(pattern, step);
                partsRead(pattern, step);
                wrongKinds(pattern, step);
                partsInDisorder(pattern, step);
                partsOfAnotherTalk(pattern, step);
                readOnce(pattern, step);
                otherMessages(pattern, step);
            }
        }
        bareFirstMessage();
        changedFirstPayload();
        otherResponder();
        ownEphemeralComesBack();
        payloads();
        CHECK.end();
    }

    /** The message of that step is written, as message number step, but not read. */
    private static Talks written(int pattern, int step) {
        Talks x = new Talks(CHECK);
        Scenes.talk(x, pattern, step);
        x.write(step % 2, 100 + step);
        return x;
    }

    private static int[] kindsOf(int pattern, int step) {
        return KINDS[3 * pattern + step];
    }

    /** The reader of that step stands where it stood before it. */
    private static void unread(Talks x, int pattern, int step) {
        int reader = 1 - step % 2;
        x.due(x.state(reader), 0);
        x.due(x.steps(reader), step);
        x.due(x.peer(reader), pattern == 1 && reader == 0 ? 2 : 0);
        x.due(x.payload(reader), step == 2 ? 100 : 0);
        x.due(x.accepted(reader), step == 2 ? 1 : 0);
    }

    /** The message of that step is read after all, and the talk comes to its end. */
    private static void readsOn(Talks x, int pattern, int step) {
        x.due(x.deliver(step, 1 - step % 2), 1);
        x.due(x.payload(1 - step % 2), 100 + step);
        for (int s = step + 1; s < Scenes.lengthOf(pattern); s++) {
            x.due(x.deliver(x.write(s % 2, 100 + s), 1 - s % 2), 1);
        }
        x.due(x.match(0, 1), true);
    }

    private static void turns(int pattern) {
        CHECK.about("The initiator writes the first message, the responder the second, and so on; pattern " + pattern);
        Talks x = new Talks(CHECK);
        Scenes.start(x, pattern);
        for (int step = 0; step < Scenes.lengthOf(pattern); step++) {
            int writer = step % 2;
            x.due(x.write(1 - writer, 1), TURN);
            x.due(x.write(writer, 1), step);
            x.due(x.write(writer, 1), TURN);
            x.due(x.write(1 - writer, 1), TURN);
            x.due(x.deliver(step, 1 - writer), 1);
        }
        CHECK.about("TURN: it is done; pattern " + pattern);
        x.due(x.write(0, 1), TURN);
        x.due(x.write(1, 1), TURN);
        x.due(x.parts(Scenes.lengthOf(pattern)), SealedTalks.BAD);
    }

    private static void doneOneByOne(int pattern) {
        CHECK.about("after the last one both are DONE; pattern " + pattern);
        int last = Scenes.lengthOf(pattern) - 1;
        Talks x = new Talks(CHECK);
        Scenes.talk(x, pattern, last);
        x.due(x.state(0), 0);
        x.due(x.state(1), 0);
        x.due(x.send(last % 2, 1), TURN);
        x.write(last % 2, 1);
        x.due(x.state(last % 2), 1);
        x.due(x.state(1 - last % 2), 0);
        x.due(x.send(1 - last % 2, 1), TURN);
        x.due(x.send(last % 2, 1), last + 1);
        x.due(x.deliver(last, 1 - last % 2), 1);
        x.due(x.state(1 - last % 2), 1);
        x.due(x.send(1 - last % 2, 1), last + 2);
    }

    private static void ownMessageNext(int pattern) {
        CHECK.about("0 if not (nothing changes then, also when its own message is next); pattern " + pattern);
        Talks x = new Talks(CHECK);
        Scenes.start(x, pattern);
        x.start(pattern, true, 1, 2, 7);
        x.write(2, 5);
        x.due(x.deliver(0, 0), 0);
        x.due(x.steps(0), 0);
        x.due(x.accepted(0), 0);
        x.due(x.payload(0), 0);
        x.due(x.deliver(x.write(0, 6), 1), 1);
        x.due(x.deliver(0, 1), 0);
        x.due(x.deliver(1, 1), 0);
        x.due(x.steps(1), 1);
        x.due(x.payload(1), 6);
        x.due(x.deliver(x.write(1, 7), 0), 1);
    }

    private static void samePrologue(int pattern) {
        CHECK.about("a PROLOGUE (an int); pattern " + pattern);
        int[] prologues = {0, 1, -1, Integer.MIN_VALUE, Integer.MAX_VALUE};
        for (int prologue : prologues) {
            Talks x = new Talks(CHECK);
            x.start(pattern, true, 1, 2, prologue);
            x.start(pattern, false, 2, 0, prologue);
            for (int step = 0; step < Scenes.lengthOf(pattern); step++) {
                x.due(x.deliver(x.write(step % 2, 0), 1 - step % 2), 1);
            }
            x.due(x.match(0, 1), true);
        }
    }

    private static void otherPrologue(int pattern) {
        CHECK.about("h is HASH of NUM of the pattern and NUM of the prologue; pattern " + pattern);
        int[] differences = {1, -1, 1 << 8, 1 << 16, Integer.MIN_VALUE};
        for (int difference : differences) {
            Talks x = new Talks(CHECK);
            x.start(pattern, true, 1, 2, 3);
            x.start(pattern, false, 2, 0, 3 + difference);
            x.due(x.deliver(x.write(0, 0), 1), pattern == 0 ? 1 : 0);
            if (pattern == 0) {
                x.due(x.deliver(x.write(1, 0), 0), 0);
                x.due(x.peer(0), 0);
            }
        }
    }

    private static void partsWritten(int pattern, int step) {
        CHECK.about("its part is t if there is no k, else SEAL; pattern " + pattern + ", step " + step);
        Talks x = written(pattern, step);
        int[] kinds = kindsOf(pattern, step);
        x.due(x.parts(step), kinds.length);
        for (int part = 0; part < kinds.length; part++) {
            x.due(x.sees(step, part), kinds[part]);
        }
        x.due(x.sees(step, kinds.length), SealedTalks.BAD);
    }

    private static void partsRead(int pattern, int step) {
        CHECK.about("the message must have as many parts as the tokens e and s and 1; pattern "
                + pattern + ", step " + step);
        Talks x = written(pattern, step);
        x.start(0, true, 3, 0, 0);
        x.start(1, true, 3, 4, 0);
        int reader = 1 - step % 2;
        int ofTwo = x.write(2, 0);
        int ofThree = x.write(3, 0);
        if (Scenes.partsOf(pattern, step) == 3) {
            x.due(x.deliver(twoOf(x, ofTwo, 0, step, 0, 1), reader), 0);
            x.due(x.deliver(twoOf(x, ofTwo, 0, step, 0, 2), reader), 0);
            x.due(x.deliver(twoOf(x, ofTwo, 0, step, 1, 2), reader), 0);
        } else {
            x.due(x.deliver(twoOf(x, ofThree, 0, step, 0, 1), reader), 0);
            x.due(x.deliver(x.replace(x.made() - 1, 2, 5), reader), 0);
            x.due(x.deliver(x.splice(x.made() - 1, 2, step, 1), reader), 0);
            x.due(x.deliver(twoOf(x, ofThree, 1, step, 0, 1), reader), 0);
        }
        unread(x, pattern, step);
        readsOn(x, pattern, step);
    }

    /** As that base, but the two parts from at on are parts i and j of a message. */
    private static int twoOf(Talks x, int base, int at, int message, int i, int j) {
        return x.splice(x.splice(base, at, message, i), at + 1, message, j);
    }

    private static void wrongKinds(int pattern, int step) {
        CHECK.about("for e the part must be a PUB, for s a PUB is taken, in the end a NUM; pattern "
                + pattern + ", step " + step);
        Talks x = written(pattern, step);
        x.start(1, true, 3, 4, 0);
        int strange = x.write(2, 100 + step);
        int reader = 1 - step % 2;
        int[] kinds = kindsOf(pattern, step);
        for (int part = 0; part < kinds.length; part++) {
            if (kinds[part] != NUM) {
                x.due(x.deliver(x.replace(step, part, 100 + step), reader), 0);
            }
            if (kinds[part] != PUB) {
                x.due(x.deliver(x.splice(step, part, 0, 0), reader), 0);
                x.due(x.deliver(x.splice(step, part, strange, 0), reader), 0);
            }
            x.due(x.deliver(x.splice(step, part, strange, 1), reader), 0);
            x.due(x.deliver(x.splice(step, part, strange, 2), reader), 0);
            unread(x, pattern, step);
        }
        readsOn(x, pattern, step);
    }

    private static void partsInDisorder(int pattern, int step) {
        CHECK.about("the part must be a SEAL of just k, n, h: in its place; pattern " + pattern + ", step " + step);
        Talks x = written(pattern, step);
        int parts = Scenes.partsOf(pattern, step);
        for (int part = 0; part < parts; part++) {
            for (int j = 0; j < parts; j++) {
                if (part != j) {
                    x.due(x.deliver(x.splice(step, part, step, j), 1 - step % 2), 0);
                }
            }
        }
        unread(x, pattern, step);
        readsOn(x, pattern, step);
    }

    /** Another talk of the same ends, keys and payloads differs by its ephemeral keys alone. */
    private static void partsOfAnotherTalk(int pattern, int step) {
        CHECK.about("the part must be a SEAL of just k, n, h: of this talk; pattern " + pattern + ", step " + step);
        Talks x = written(pattern, step);
        x.start(pattern, true, 1, 2, 7);
        x.start(pattern, false, 2, 0, 7);
        for (int s = 0; s < step; s++) {
            x.deliver(x.write(2 + s % 2, 100 + s), 3 - s % 2);
        }
        int other = x.write(2 + step % 2, 100 + step);
        boolean allBare = pattern == 0 && step == 0;
        for (int part = 0; part < Scenes.partsOf(pattern, step) && !allBare; part++) {
            x.due(x.deliver(x.splice(step, part, other, part), 1 - step % 2), 0);
            x.due(x.deliver(x.splice(other, part, step, part), 1 - step % 2), 0);
        }
        unread(x, pattern, step);
        x.due(x.deliver(other, 3 - step % 2), 1);
        readsOn(x, pattern, step);
    }

    private static void readOnce(int pattern, int step) {
        CHECK.about("(So for one that it wrote, or read before.); pattern " + pattern + ", step " + step);
        Talks x = written(pattern, step);
        int writer = step % 2;
        x.due(x.deliver(step, writer), 0);
        x.due(x.deliver(step, 1 - writer), 1);
        x.due(x.deliver(step, writer), 0);
        x.due(x.deliver(step, 1 - writer), 0);
        x.due(x.steps(0), step + 1);
        x.due(x.steps(1), step + 1);
        x.due(x.accepted(1 - writer), step == 2 ? 2 : 1);
        x.due(x.accepted(writer), step == 0 ? 0 : 1);
        x.due(x.payload(1 - writer), 100 + step);
        x.due(x.payload(writer), step == 0 ? 0 : 99 + step);
    }

    /** Each message of the talk but the one that is next. */
    private static void otherMessages(int pattern, int step) {
        CHECK.about("a session reads the message that is next; pattern " + pattern + ", step " + step);
        Talks x = Scenes.agreed(CHECK, pattern);
        int[] later = {x.send(0, 5), x.send(1, 5)};
        int late = x.start(pattern, step % 2 == 1, step % 2 == 1 ? 1 : 2, 2, 7);
        int other = x.start(pattern, step % 2 == 0, step % 2 == 0 ? 1 : 2, 2, 7);
        for (int s = 0; s < step; s++) {
            int writer = s % 2 == step % 2 ? other : late;
            x.deliver(x.write(writer, 100 + s), writer == late ? other : late);
        }
        int next = x.write(other, 100 + step);
        for (int m = 0; m < next; m++) {
            if (step != 0 || m != 0) {
                x.due(x.deliver(m, late), 0);
            }
        }
        x.due(x.deliver(later[0], late), 0);
        x.due(x.deliver(later[1], late), 0);
        x.due(x.steps(late), step);
        x.due(x.deliver(next, late), 1);
    }

    private static void bareFirstMessage() {
        CHECK.about("if there is no k, it is the part");
        Talks x = new Talks(CHECK);
        Scenes.start(x, 0);
        x.start(0, true, 3, 0, 7);
        x.start(0, false, 3, 0, 7);
        x.write(0, 5);
        x.write(2, 6);
        x.due(x.deliver(x.splice(0, 0, 0, 1), 1), 0);
        x.due(x.deliver(x.splice(0, 1, 0, 0), 1), 0);
        x.due(x.steps(1), 0);
        x.due(x.deliver(x.splice(0, 0, 1, 0), 1), 1);
        x.due(x.payload(1), 5);
        x.due(x.deliver(x.replace(0, 1, 8), 3), 1);
        x.due(x.payload(3), 8);
        CHECK.about("whose key is the other end's ephemeral one then");
        x.write(1, 9);
        x.due(x.deliver(6, 0), 0);
        x.due(x.deliver(6, 2), 0);
    }

    private static void changedFirstPayload() {
        CHECK.about("then h becomes HASH of h and the part");
        Talks x = new Talks(CHECK);
        Scenes.start(x, 0);
        x.start(0, false, 2, 0, 7);
        x.write(0, 5);
        x.due(x.deliver(x.replace(0, 1, 6), 1), 1);
        x.due(x.deliver(x.replace(1, 1, 5), 2), 1);
        x.write(1, 7);
        x.write(2, 7);
        x.due(x.deliver(3, 0), 0);
        x.due(x.peer(0), 0);
        x.due(x.deliver(4, 0), 1);
        x.due(x.peer(0), 2);
    }

    private static void otherResponder() {
        CHECK.about("the initiator takes the one that it knows");
        for (int known = 1; known <= 8; known++) {
            Talks x = new Talks(CHECK);
            x.start(1, true, 4, known, 0);
            x.write(0, 1);
            for (int own = 1; own <= 8; own++) {
                x.start(1, false, own, 0, 0);
                x.due(x.deliver(0, own), own == known ? 1 : 0);
                x.due(x.peer(own), own == known ? 4 : 0);
            }
        }
    }

    /** A session may be led to agree with its own e; nothing in the document stands against it. */
    private static void ownEphemeralComesBack() {
        CHECK.about("DH of two private keys, both the same");
        Talks x = new Talks(CHECK);
        Scenes.talk(x, 0, 1);
        x.write(1, 1);
        x.due(x.deliver(x.splice(1, 0, 0, 0), 0), 0);
        x.due(x.deliver(1, 0), 1);
        Talks y = new Talks(CHECK);
        y.start(1, true, 4, 4, 0);
        y.start(1, false, 4, 0, 0);
        y.due(y.deliver(y.write(0, 1), 1), 1);
        y.due(y.peer(1), 4);
        y.due(y.deliver(y.write(1, 2), 0), 1);
        y.due(y.match(0, 1), true);
    }

    private static void payloads() {
        CHECK.about("In the end NUM of the payload is put");
        int[] payloads = {0, 1, -1, Integer.MIN_VALUE, Integer.MAX_VALUE};
        for (int payload : payloads) {
            for (int pattern = 0; pattern <= 1; pattern++) {
                Talks x = new Talks(CHECK);
                Scenes.start(x, pattern);
                for (int step = 0; step < Scenes.lengthOf(pattern); step++) {
                    x.due(x.deliver(x.write(step % 2, payload), 1 - step % 2), 1);
                    x.due(x.payload(1 - step % 2), payload);
                    x.due(x.accepted(1 - step % 2), step == 2 ? 2 : 1);
                }
            }
        }
    }
}
