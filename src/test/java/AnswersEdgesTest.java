/** The edges of what is asked of sessions: one that is not there, has nothing yet, or is done. */
public final class AnswersEdgesTest {
    private static final int BAD = SealedTalks.BAD;
    private static final Check CHECK = new Check();

    /** A question about a session. */
    private interface Question {
        int ask(Talks x, int session);
    }

    public static void main(String[] args) {
        noSuchSession("state", (x, s) -> x.state(s), BAD, 0);
        noSuchSession("steps", (x, s) -> x.steps(s), BAD, 0);
        noSuchSession("peer", (x, s) -> x.peer(s), BAD, 3);
        noSuchSession("payload", (x, s) -> x.payload(s), 0, 0);
        noSuchSession("accepted", (x, s) -> x.accepted(s), BAD, 0);
        noSuchSession("open", (x, s) -> x.open(s) ? 1 : 0, 0, 0);
        noSuchSession("match", (x, s) -> x.match(s, s) ? 1 : 0, 0, 0);
        states(0);
        states(1);
        stepsOfPattern(0);
        stepsOfPattern(1);
        peers();
        peerOfEachKey();
        payloads();
        payloadZeroIsRead();
        accepted();
        matchOfNone();
        matchOfUndone();
        matchOfClosed();
        matchOfOthers();
        CHECK.end();
    }

    /** With no session, one, eleven and twelve: the first that is not there, and the last that is. */
    private static void noSuchSession(String name, Question question, int none, int fresh) {
        CHECK.about(name + " when there is no such session");
        int[] counts = {0, 1, 11, 12};
        for (int count : counts) {
            Talks x = new Talks(CHECK);
            for (int i = 0; i < count; i++) {
                x.start(1, true, 2, 3, 0);
            }
            int[] wrong = {-1, count, count + 1, 12, 13, Integer.MIN_VALUE, Integer.MAX_VALUE};
            for (int session : wrong) {
                x.due(question.ask(x, session), none);
            }
            if (count > 0) {
                x.due(question.ask(x, 0), fresh);
                x.due(question.ask(x, count - 1), fresh);
            }
        }
    }

    private static void states(int pattern) {
        CHECK.about("0 not done, 1 done, 2 closed; pattern " + pattern);
        for (int steps = 0; steps <= Scenes.lengthOf(pattern); steps++) {
            Talks x = new Talks(CHECK);
            Scenes.talk(x, pattern, steps);
            boolean done = steps == Scenes.lengthOf(pattern);
            for (int session = 0; session <= 1; session++) {
                x.due(x.state(session), done ? 1 : 0);
            }
            Scenes.ticks(x, done ? 29 : 5);
            for (int session = 0; session <= 1; session++) {
                x.due(x.state(session), done ? 1 : 0);
            }
            x.tick();
            for (int session = 0; session <= 1; session++) {
                x.due(x.state(session), 2);
            }
        }
    }

    private static void stepsOfPattern(int pattern) {
        CHECK.about("How many messages of its pattern a session has written and read; pattern " + pattern);
        Talks x = new Talks(CHECK);
        Scenes.start(x, pattern);
        int length = Scenes.lengthOf(pattern);
        for (int step = 0; step < length; step++) {
            int writer = step % 2;
            x.due(x.steps(writer), step);
            x.write(writer, 1);
            x.due(x.steps(writer), step + 1);
            x.due(x.steps(1 - writer), step);
            x.deliver(step, 1 - writer);
            x.due(x.steps(1 - writer), step + 1);
        }
        x.write(0, 1);
        x.deliver(x.send(0, 1), 1);
        x.deliver(length - 1, 0);
        x.due(x.steps(0), length);
        x.due(x.steps(1), length);
        Scenes.ticks(x, 30);
        x.due(x.steps(0), length);
        x.due(x.steps(1), length);
    }

    private static void peers() {
        CHECK.about("The static key of the other end, as far as the session knows, else 0");
        int[] initiator = {0, 0, 2, 2};
        int[] responder = {0, 0, 0, 1};
        for (int steps = 0; steps <= 3; steps++) {
            Talks x = talked(0, steps);
            x.due(x.peer(0), initiator[steps]);
            x.due(x.peer(1), responder[steps]);
        }
        CHECK.about("(The initiator of pattern 1 knows it from the start.)");
        for (int steps = 0; steps <= 2; steps++) {
            Talks x = talked(1, steps);
            x.due(x.peer(0), 2);
            x.due(x.peer(1), steps == 0 ? 0 : 1);
        }
    }

    private static Talks talked(int pattern, int steps) {
        Talks x = new Talks(CHECK);
        Scenes.talk(x, pattern, steps);
        return x;
    }

    private static void peerOfEachKey() {
        CHECK.about("peer: each static key 1 .. 8");
        for (int key = 1; key <= 8; key++) {
            Talks x = new Talks(CHECK);
            x.start(0, true, key, 0, 0);
            x.start(0, false, 9 - key, 0, 0);
            x.deliver(x.write(0, 0), 1);
            x.deliver(x.write(1, 0), 0);
            x.due(x.peer(0), 9 - key);
            x.deliver(x.write(0, 0), 1);
            x.due(x.peer(1), key);
            x.start(1, true, key, 9 - key, 0);
            x.due(x.peer(2), 9 - key);
        }
    }

    private static void payloads() {
        CHECK.about("The payload that a session read or accepted latest; 0 when there was none");
        Talks x = new Talks(CHECK);
        Scenes.start(x, 0);
        x.due(x.payload(0), 0);
        x.write(0, 11);
        x.due(x.payload(0), 0);
        x.due(x.payload(1), 0);
        x.deliver(0, 1);
        x.due(x.payload(1), 11);
        x.write(1, 12);
        x.due(x.payload(1), 11);
        x.deliver(1, 0);
        x.due(x.payload(0), 12);
        x.deliver(x.write(0, 13), 1);
        x.due(x.payload(1), 13);
        x.send(0, 14);
        x.send(0, 15);
        x.due(x.payload(0), 12);
        x.due(x.payload(1), 13);
        x.deliver(4, 1);
        x.due(x.payload(1), 15);
        x.deliver(3, 1);
        x.due(x.payload(1), 14);
        x.deliver(4, 1);
        x.deliver(0, 1);
        x.due(x.payload(1), 14);
    }

    private static void payloadZeroIsRead() {
        CHECK.about("a payload may be 0");
        Talks x = Scenes.agreed(CHECK, 0);
        x.due(x.payload(1), 102);
        x.deliver(x.send(0, 0), 1);
        x.due(x.payload(1), 0);
        x.due(x.accepted(1), 3);
    }

    private static void accepted() {
        CHECK.about("How many payloads a session read and accepted");
        int[] initiator = {0, 0, 1, 1};
        int[] responder = {0, 1, 1, 2};
        for (int steps = 0; steps <= 3; steps++) {
            Talks x = talked(0, steps);
            x.due(x.accepted(0), initiator[steps]);
            x.due(x.accepted(1), responder[steps]);
            x.deliver(0, 0);
            x.deliver(0, steps == 0 ? 0 : 1);
            x.due(x.accepted(0), initiator[steps]);
            x.due(x.accepted(1), responder[steps]);
        }
        Talks y = Scenes.agreed(CHECK, 1);
        for (int i = 0; i < 5; i++) {
            int message = y.send(1, 9);
            y.due(y.accepted(0), 1 + i);
            y.deliver(message, 0);
            y.deliver(message, 0);
            y.deliver(message, 1);
            y.due(y.accepted(0), 2 + i);
            y.due(y.accepted(1), 1);
        }
    }

    private static void matchOfNone() {
        CHECK.about("match: one of them is not there");
        Talks x = Scenes.agreed(CHECK, 0);
        int[] none = {-1, 2, 12, Integer.MIN_VALUE, Integer.MAX_VALUE};
        for (int session : none) {
            x.due(x.match(session, 0), false);
            x.due(x.match(0, session), false);
            x.due(x.match(1, session), false);
            x.due(x.match(session, session), false);
        }
        x.due(x.match(0, 1), true);
        x.due(x.match(1, 0), true);
        x.due(x.match(0, 0), false);
        x.due(x.match(1, 1), false);
    }

    private static void matchOfUndone() {
        CHECK.about("Whether two sessions are done");
        for (int pattern = 0; pattern <= 1; pattern++) {
            int length = Scenes.lengthOf(pattern);
            for (int steps = 0; steps <= length; steps++) {
                Talks x = talked(pattern, steps);
                x.due(x.match(0, 1), steps == length);
                x.due(x.match(1, 0), steps == length);
                x.due(x.match(0, 0), false);
                if (steps < length) {
                    x.write(steps % 2, 1);
                    x.due(x.match(0, 1), false);
                    x.due(x.match(1, 0), false);
                }
            }
        }
    }

    private static void matchOfClosed() {
        CHECK.about("done (or closed behind that)");
        for (int pattern = 0; pattern <= 1; pattern++) {
            int last = Scenes.lengthOf(pattern) - 1;
            Talks x = talked(pattern, last);
            x.write(last % 2, 1);
            Scenes.ticks(x, 5);
            x.deliver(last, 1 - last % 2);
            Scenes.ticks(x, 25);
            x.due(x.state(last % 2), 2);
            x.due(x.state(1 - last % 2), 1);
            x.due(x.match(0, 1), true);
            x.due(x.match(1, 0), true);
            Scenes.ticks(x, 5);
            x.due(x.state(1 - last % 2), 2);
            x.due(x.match(0, 1), true);
            Talks y = talked(pattern, last);
            y.write(last % 2, 1);
            Scenes.ticks(y, 6);
            y.due(y.state(last % 2), 1);
            y.due(y.state(1 - last % 2), 2);
            y.due(y.match(0, 1), false);
            y.due(y.match(1, 0), false);
        }
    }

    private static void matchOfOthers() {
        CHECK.about("each one's sending key is the other one's receiving key");
        Talks x = new Talks(CHECK);
        for (int i = 0; i < 12; i++) {
            x.start(i / 6, i % 2 == 0, 1, 1, 0);
        }
        for (int step = 0; step < 3; step++) {
            for (int pair = 0; pair < 6; pair++) {
                int writer = 2 * pair + step % 2;
                x.deliver(x.write(writer, 0), writer ^ 1);
            }
        }
        for (int i = 0; i < 12; i++) {
            for (int j = 0; j < 12; j++) {
                x.due(x.match(i, j), (i ^ 1) == j);
            }
        }
    }
}
