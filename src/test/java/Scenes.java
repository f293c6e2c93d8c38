/**
 * What many tests begin with: session 0 is the initiator with the static key 1, session 1 the
 * responder with 2; they make the ephemeral keys 9 and 10.
 */
final class Scenes {
    private Scenes() {
    }

    static int lengthOf(int pattern) {
        return pattern == 0 ? 3 : 2;
    }

    /** How many parts the message of that step has. */
    static int partsOf(int pattern, int step) {
        return step == 1 - pattern ? 3 : 2;
    }

    static void start(Talks x, int pattern) {
        x.start(pattern, true, 1, 2, 7);
        x.start(pattern, false, 2, 0, 7);
    }

    /** The first steps are written and read: step i is message i, with the payload 100 + i. */
    static void talk(Talks x, int pattern, int steps) {
        start(x, pattern);
        for (int step = 0; step < steps; step++) {
            x.deliver(x.write(step % 2, 100 + step), 1 - step % 2);
        }
    }

    static void agree(Talks x, int pattern) {
        talk(x, pattern, lengthOf(pattern));
    }

    static Talks agreed(Check check, int pattern) {
        Talks x = new Talks(check);
        agree(x, pattern);
        return x;
    }

    /** Copies message 0, which must be there, until so many messages are made. */
    static void fill(Talks x, int count) {
        for (int i = x.made(); i < count; i++) {
            x.splice(0, 0, 0, 0);
        }
    }

    /** How many sessions closed in so many ticks. */
    static int ticks(Talks x, int times) {
        int closed = 0;
        for (int i = 0; i < times; i++) {
            closed += x.tick();
        }
        return closed;
    }
}
