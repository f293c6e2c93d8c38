/** The edges of time: when sessions close, and what a closed one still answers. */
public final class TimeEdgesTest {
    private static final int CLOSED = SealedTalks.CLOSED;
    private static final Check CHECK = new Check();

    public static void main(String[] args) {
        noSessions();
        for (int pattern = 0; pattern <= 1; pattern++) {
            for (int steps = 0; steps < Scenes.lengthOf(pattern); steps++) {
                sixthTick(pattern, steps);
                stepsDoNotProlong(pattern, steps);
            }
            for (int before = 0; before < 6; before++) {
                thirtiethTick(pattern, before);
            }
            lastMomentWrite(pattern);
            doneOneAfterTheOther(pattern);
        }
        countsFromItsOwnStart();
        ticksBeforeAnySession();
        answersHowMany();
        refusedCallsAreNoTicks();
        closedDoesNothing();
        closedStillTells();
        closedDoneStillTells();
        theOtherEndGoesOn();
        CHECK.end();
    }

    private static void noSessions() {
        CHECK.about("A tick: how many sessions closed; none are there");
        Talks x = new Talks(CHECK);
        for (int i = 0; i < 40; i++) {
            x.due(x.tick(), 0);
        }
    }

    private static void sixthTick(int pattern, int steps) {
        CHECK.about("a session that is not done CLOSES at the 6th tick after its start; pattern "
                + pattern + ", steps " + steps);
        Talks x = new Talks(CHECK);
        Scenes.talk(x, pattern, steps);
        for (int i = 1; i <= 5; i++) {
            x.due(x.tick(), 0);
            x.due(x.state(0), 0);
            x.due(x.state(1), 0);
        }
        x.due(x.tick(), 2);
        x.due(x.state(0), 2);
        x.due(x.state(1), 2);
        x.due(Scenes.ticks(x, 40), 0);
    }

    private static void stepsDoNotProlong(int pattern, int steps) {
        CHECK.about("the 6th tick after its start, whenever its steps were made; pattern "
                + pattern + ", steps " + steps);
        Talks x = new Talks(CHECK);
        Scenes.start(x, pattern);
        for (int step = 0; step < steps; step++) {
            x.due(x.tick(), 0);
            x.due(x.deliver(x.write(step % 2, 1), 1 - step % 2), 1);
        }
        x.due(Scenes.ticks(x, 5 - steps), 0);
        x.due(x.tick(), 2);
    }

    private static void thirtiethTick(int pattern, int before) {
        CHECK.about("a done one at the 30th after it was done; pattern " + pattern
                + ", ticks before it was done: " + before);
        Talks x = new Talks(CHECK);
        Scenes.start(x, pattern);
        x.due(Scenes.ticks(x, before), 0);
        for (int step = 0; step < Scenes.lengthOf(pattern); step++) {
            x.deliver(x.write(step % 2, 1), 1 - step % 2);
        }
        for (int i = 1; i <= 29; i++) {
            x.due(x.tick(), 0);
        }
        x.due(x.state(0), 1);
        x.due(x.state(1), 1);
        x.due(x.deliver(x.send(0, 5), 1), 1);
        x.due(x.deliver(x.send(1, 6), 0), 1);
        x.due(x.tick(), 2);
        x.due(x.state(0), 2);
        x.due(x.state(1), 2);
        x.due(Scenes.ticks(x, 40), 0);
    }

    private static void lastMomentWrite(int pattern) {
        CHECK.about("at the 5th tick a session still writes and reads; pattern " + pattern);
        for (int step = 0; step < Scenes.lengthOf(pattern); step++) {
            Talks x = new Talks(CHECK);
            Scenes.talk(x, pattern, step);
            Scenes.ticks(x, 5);
            x.due(x.write(step % 2, 9), step);
            x.due(x.deliver(step, 1 - step % 2), 1);
            x.due(x.tick(), step == Scenes.lengthOf(pattern) - 1 ? 0 : 2);
            Talks y = new Talks(CHECK);
            Scenes.talk(y, pattern, step);
            Scenes.ticks(y, 6);
            y.due(y.write(step % 2, 9), CLOSED);
            Talks z = new Talks(CHECK);
            Scenes.talk(z, pattern, step);
            z.write(step % 2, 9);
            Scenes.ticks(z, 6);
            z.due(z.deliver(step, 1 - step % 2), CLOSED);
        }
    }

    private static void doneOneAfterTheOther(int pattern) {
        CHECK.about("the 30th after it was done, by writing or by reading; pattern " + pattern);
        int last = Scenes.lengthOf(pattern) - 1;
        int writer = last % 2;
        Talks x = new Talks(CHECK);
        Scenes.talk(x, pattern, last);
        x.write(writer, 1);
        x.due(Scenes.ticks(x, 5), 0);
        x.due(x.deliver(last, 1 - writer), 1);
        x.due(Scenes.ticks(x, 24), 0);
        x.due(x.state(writer), 1);
        x.due(x.tick(), 1);
        x.due(x.state(writer), 2);
        x.due(x.state(1 - writer), 1);
        x.due(Scenes.ticks(x, 4), 0);
        x.due(x.state(1 - writer), 1);
        x.due(x.tick(), 1);
        x.due(x.state(1 - writer), 2);
    }

    private static void countsFromItsOwnStart() {
        CHECK.about("the 6th tick after its start: each session's own start");
        Talks x = new Talks(CHECK);
        for (int i = 0; i < 12; i++) {
            x.due(x.start(i % 2, i % 3 == 0, 1, 1, 0), i);
            x.due(x.tick(), i >= 5 ? 1 : 0);
            x.due(x.state(i), 0);
            if (i >= 5) {
                x.due(x.state(i - 5), 2);
                x.due(x.state(i - 4), 0);
            }
        }
        x.due(Scenes.ticks(x, 4), 4);
        x.due(x.state(11), 0);
        x.due(x.tick(), 1);
        x.due(x.state(11), 2);
        x.due(x.tick(), 0);
    }

    private static void ticksBeforeAnySession() {
        CHECK.about("ticks before the start do not count");
        Talks x = new Talks(CHECK);
        Scenes.ticks(x, 50);
        Scenes.start(x, 0);
        x.due(Scenes.ticks(x, 5), 0);
        x.due(x.tick(), 2);
    }

    private static void answersHowMany() {
        CHECK.about("A tick: how many sessions closed");
        for (int count = 0; count <= 12; count++) {
            Talks x = new Talks(CHECK);
            for (int i = 0; i < count; i++) {
                x.start(i % 2, true, 1, 1, i);
            }
            x.due(Scenes.ticks(x, 5), 0);
            x.due(x.tick(), count);
            x.due(x.tick(), 0);
        }
    }

    private static void refusedCallsAreNoTicks() {
        CHECK.about("a refused call changes nothing: the time of a session neither");
        Talks x = new Talks(CHECK);
        Scenes.talk(x, 0, 1);
        for (int i = 0; i < 10; i++) {
            x.write(0, 1);
            x.send(0, 1);
            x.deliver(0, 0);
            x.deliver(0, 1);
        }
        x.due(Scenes.ticks(x, 5), 0);
        x.deliver(0, 0);
        x.write(0, 1);
        x.due(x.tick(), 2);
        Talks y = Scenes.agreed(CHECK, 1);
        y.due(Scenes.ticks(y, 29), 0);
        y.deliver(y.send(0, 1), 1);
        y.deliver(2, 1);
        y.write(0, 1);
        y.due(y.tick(), 2);
    }

    private static void closedDoesNothing() {
        CHECK.about("A closed session does nothing any more");
        Talks x = new Talks(CHECK);
        Scenes.talk(x, 0, 1);
        Scenes.ticks(x, 6);
        x.due(x.write(0, 1), CLOSED);
        x.due(x.write(1, 1), CLOSED);
        x.due(x.send(0, 1), CLOSED);
        x.due(x.send(1, 1), CLOSED);
        x.due(x.deliver(0, 0), CLOSED);
        x.due(x.deliver(0, 1), CLOSED);
        x.due(x.give(11), false);
        x.due(x.parts(1), SealedTalks.BAD);
        Talks y = Scenes.agreed(CHECK, 0);
        y.send(0, 1);
        Scenes.ticks(y, 30);
        for (int session = 0; session <= 1; session++) {
            y.due(y.write(session, 1), CLOSED);
            y.due(y.send(session, 1), CLOSED);
            y.due(y.deliver(0, session), CLOSED);
            y.due(y.deliver(3, session), CLOSED);
        }
        y.due(y.accepted(1), 2);
        y.due(y.parts(4), SealedTalks.BAD);
    }

    private static void closedStillTells() {
        CHECK.about("closed before it was done: what it answers");
        Talks x = new Talks(CHECK);
        Scenes.talk(x, 0, 2);
        Scenes.ticks(x, 6);
        for (int session = 0; session <= 1; session++) {
            x.due(x.state(session), 2);
            x.due(x.steps(session), 2);
            x.due(x.accepted(session), 1);
            x.due(x.open(session), false);
            x.due(x.match(session, 1 - session), false);
        }
        x.due(x.peer(0), 2);
        x.due(x.peer(1), 0);
        x.due(x.payload(0), 101);
        x.due(x.payload(1), 100);
    }

    private static void closedDoneStillTells() {
        CHECK.about("done (or closed behind that)");
        for (int pattern = 0; pattern <= 1; pattern++) {
            Talks x = Scenes.agreed(CHECK, pattern);
            x.deliver(x.send(0, 7), 1);
            Scenes.ticks(x, 30);
            x.due(x.state(0), 2);
            x.due(x.state(1), 2);
            x.due(x.steps(0), Scenes.lengthOf(pattern));
            x.due(x.peer(0), 2);
            x.due(x.peer(1), 1);
            x.due(x.payload(1), 7);
            x.due(x.accepted(1), pattern == 0 ? 3 : 2);
            x.due(x.match(0, 1), true);
            x.due(x.open(0), false);
            x.give(1);
            x.due(x.open(0), false);
            x.give(9);
            x.due(x.open(0), true);
            x.due(x.open(1), true);
        }
    }

    private static void theOtherEndGoesOn() {
        CHECK.about("a session that closes does not close another");
        Talks x = new Talks(CHECK);
        x.start(1, true, 1, 2, 0);
        x.write(0, 1);
        Scenes.ticks(x, 5);
        x.start(1, false, 2, 0, 0);
        x.due(x.tick(), 1);
        x.due(x.deliver(0, 1), 1);
        x.due(x.write(1, 1), 1);
        x.due(x.deliver(1, 0), CLOSED);
        x.due(x.state(1), 1);
        x.due(x.send(1, 1), 2);
        x.due(x.deliver(2, 0), CLOSED);
    }
}
