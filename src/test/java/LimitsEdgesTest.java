import java.util.function.ToIntFunction;

/** The edges of how much there may be: keys, sessions, messages, calls. */
public final class LimitsEdgesTest {
    private static final int BAD = SealedTalks.BAD;
    private static final int TURN = SealedTalks.TURN;
    private static final int FULL = SealedTalks.FULL;
    private static final Check CHECK = new Check();

    public static void main(String[] args) {
        nothingAtFirst();
        ephemeralKeysInOrder();
        ephemeralKeysOnlyAsNeeded();
        lastEphemeralKey();
        ownStaticKey();
        remoteStaticKey();
        remoteNotLookedAt();
        patternNumbers();
        twelveSessions();
        closedSessionsCount();
        sixtyMessages();
        sixtyOfEachKind();
        fullStillDelivers();
        lastCall();
        mostTerms();
        fullestTalks();
        fullestTalksBehindReadingsInVain();
        CHECK.end();
    }

    private static void nothingAtFirst() {
        CHECK.about("No sessions, no messages, nothing given away");
        Talks x = new Talks(CHECK);
        x.due(x.state(0), BAD);
        x.due(x.parts(0), BAD);
        x.due(x.tick(), 0);
        for (int key = 1; key <= 8; key++) {
            x.due(x.give(key), true);
        }
        Scenes.agree(x, 0);
        Talks y = Scenes.agreed(CHECK, 0);
        for (int part = 1; part <= 2; part++) {
            y.due(y.sees(1, part), 4);
        }
        y.due(y.open(0), false);
    }

    private static void ephemeralKeysInOrder() {
        CHECK.about("9, 10, 11, .. are EPHEMERAL, made in this order as they are needed");
        Talks x = new Talks(CHECK);
        for (int i = 0; i < 4; i++) {
            x.start(0, i % 2 == 0, 1, 0, 0);
        }
        x.due(x.shown(x.write(2, 0), 0), 9);
        x.deliver(0, 1);
        x.due(x.shown(x.write(1, 0), 0), 10);
        x.due(x.shown(x.write(0, 0), 0), 11);
        x.deliver(2, 3);
        x.due(x.shown(x.write(3, 0), 0), 12);
    }

    private static void ephemeralKeysOnlyAsNeeded() {
        CHECK.about("an ephemeral key is made for the token e alone");
        Talks x = Scenes.agreed(CHECK, 0);
        x.due(x.give(11), false);
        x.send(0, 1);
        x.replace(0, 0, 1);
        x.splice(0, 0, 1, 0);
        x.due(x.give(11), false);
        x.start(1, true, 1, 2, 0);
        x.due(x.give(11), false);
        x.due(x.shown(x.write(2, 0), 0), 11);
        x.due(x.give(12), false);
        x.due(x.give(11), true);
    }

    private static void lastEphemeralKey() {
        CHECK.about("12 sessions make the keys 9 .. 20");
        Talks x = new Talks(CHECK);
        for (int i = 0; i < 12; i++) {
            x.start(i % 2, true, 8, 1, i);
            x.due(x.give(9 + i), false);
            x.due(x.shown(x.write(i, i), 0), 9 + i);
        }
        x.due(x.give(21), false);
        x.due(x.give(20), true);
        x.due(x.give(9), true);
        x.due(x.sees(11, 2), 4);
        x.due(x.sees(11, 1), 3);
        x.due(x.shown(11, 1), 8);
    }

    private static void ownStaticKey() {
        CHECK.about("BAD: own is not 1 .. 8");
        for (int kind = 0; kind < 4; kind++) {
            Talks x = new Talks(CHECK);
            int pattern = kind % 2;
            boolean initiator = kind < 2;
            x.due(x.start(pattern, initiator, 0, 1, 0), BAD);
            x.due(x.start(pattern, initiator, 9, 1, 0), BAD);
            x.due(x.start(pattern, initiator, -1, 1, 0), BAD);
            x.due(x.start(pattern, initiator, Integer.MIN_VALUE, 1, 0), BAD);
            x.due(x.start(pattern, initiator, Integer.MAX_VALUE, 1, 0), BAD);
            x.due(x.start(pattern, initiator, 1, 1, 0), 0);
            x.due(x.start(pattern, initiator, 8, 1, 0), 1);
        }
        Talks y = Scenes.agreed(CHECK, 0);
        y.due(y.start(0, true, 9, 0, 0), BAD);
        y.due(y.start(0, false, 10, 0, 0), BAD);
    }

    private static void remoteStaticKey() {
        CHECK.about("BAD: (for the initiator of pattern 1) remote is not 1 .. 8");
        Talks x = new Talks(CHECK);
        x.due(x.start(1, true, 1, 0, 0), BAD);
        x.due(x.start(1, true, 1, 9, 0), BAD);
        x.due(x.start(1, true, 1, -1, 0), BAD);
        x.due(x.start(1, true, 1, Integer.MIN_VALUE, 0), BAD);
        x.due(x.start(1, true, 1, Integer.MAX_VALUE, 0), BAD);
        x.due(x.start(1, true, 5, 1, 0), 0);
        x.due(x.start(1, true, 5, 8, 0), 1);
        x.due(x.start(1, true, 5, 5, 0), 2);
        x.write(0, 0);
        x.due(x.start(1, true, 1, 9, 0), BAD);
    }

    private static void remoteNotLookedAt() {
        CHECK.about("remote is not looked at otherwise");
        int[] remotes = {0, 9, -1, 3, Integer.MIN_VALUE, Integer.MAX_VALUE};
        for (int remote : remotes) {
            Talks x = new Talks(CHECK);
            x.due(x.start(0, true, 1, remote, 0), 0);
            x.due(x.start(0, false, 2, remote, 0), 1);
            x.due(x.start(1, false, 2, remote, 0), 2);
            x.due(x.start(1, true, 4, 2, 0), 3);
            for (int session = 0; session < 3; session++) {
                x.due(x.peer(session), 0);
            }
            x.due(x.deliver(x.write(3, 0), 2), 1);
            x.due(x.peer(2), 4);
        }
    }

    private static void patternNumbers() {
        CHECK.about("BAD: pattern is not 0 or 1");
        int[] wrong = {-1, 2, 3, Integer.MIN_VALUE, Integer.MAX_VALUE};
        Talks x = new Talks(CHECK);
        for (int pattern : wrong) {
            x.due(x.start(pattern, true, 1, 2, 0), BAD);
            x.due(x.start(pattern, false, 1, 2, 0), BAD);
        }
        x.due(x.start(0, true, 1, 2, 0), 0);
        x.due(x.start(1, true, 1, 2, 0), 1);
    }

    private static void twelveSessions() {
        CHECK.about("FULL: 12 were started");
        for (int kind = 0; kind < 4; kind++) {
            Talks x = new Talks(CHECK);
            for (int i = 0; i < 10; i++) {
                x.due(x.start((kind + i) % 2, i % 3 == 0, 1 + i % 8, 1, i), i);
            }
            x.due(x.start(1, true, 3, 4, 5), 10);
            x.due(x.start(kind % 2, kind < 2, 4, 3, 5), 11);
            x.due(x.start(kind % 2, kind < 2, 4, 3, 5), FULL);
            x.due(x.start(1 - kind % 2, kind >= 2, 4, 3, 5), FULL);
            x.due(x.state(11), 0);
            x.due(x.state(12), BAD);
            x.due(x.deliver(x.write(10, 9), 11), kind == 3 ? 1 : 0);
            x.due(x.write(11, 9), kind == 2 ? TURN : 1);
        }
    }

    private static void closedSessionsCount() {
        CHECK.about("FULL: 12 were started, also when they are closed");
        Talks x = new Talks(CHECK);
        for (int i = 0; i < 11; i++) {
            x.start(0, true, 1, 0, 0);
        }
        Scenes.ticks(x, 6);
        x.due(x.start(0, true, 1, 0, 0), 11);
        x.due(x.start(0, true, 1, 0, 0), FULL);
        x.due(x.state(10), 2);
        x.due(x.state(11), 0);
    }

    /** Sessions 0 and 1 have agreed, session 2 may write; so many messages are made. */
    private static Talks withMessages(int count) {
        Talks x = Scenes.agreed(CHECK, 1);
        x.start(0, true, 3, 0, 0);
        x.start(0, true, 3, 0, 0);
        Scenes.fill(x, count);
        return x;
    }

    private static void sixtyMessages() {
        lastAndFirstNot("write", x -> x.write(2, 5), x -> x.write(3, 5));
        lastAndFirstNot("send", x -> x.send(0, 5), x -> x.send(0, 5));
        lastAndFirstNot("send", x -> x.send(1, 5), x -> x.send(0, 5));
        lastAndFirstNot("splice", x -> x.splice(0, 1, 1, 1), x -> x.splice(0, 1, 1, 1));
        lastAndFirstNot("replace", x -> x.replace(0, 1, 5), x -> x.replace(0, 1, 5));
    }

    private static void lastAndFirstNot(String name, ToIntFunction<Talks> last, ToIntFunction<Talks> firstNot) {
        CHECK.about("FULL: 60 messages were made; " + name);
        Talks x = withMessages(59);
        x.due(x.parts(58), 3);
        x.due(x.parts(59), BAD);
        x.due(last.applyAsInt(x), 59);
        int parts = x.parts(59);
        CHECK.due("parts of the 60th", parts == 2 || parts == 3, true);
        x.due(firstNot.applyAsInt(x), FULL);
        x.due(x.write(3, 5), FULL);
        x.due(x.send(1, 5), FULL);
        x.due(x.splice(59, 0, 59, 0), FULL);
        x.due(x.replace(59, 0, 5), FULL);
        x.due(x.parts(60), BAD);
    }

    private static void sixtyOfEachKind() {
        CHECK.about("messages are numbered 0, 1, .. as they are made, at most 60");
        Talks x = Scenes.agreed(CHECK, 1);
        for (int i = 2; i < 60; i++) {
            int kind = i % 4;
            int message = kind == 0 ? x.send(0, i) : kind == 1 ? x.send(1, i)
                    : kind == 2 ? x.replace(i - 1, 1, i) : x.splice(i - 1, 0, i - 2, 0);
            x.due(message, i);
        }
        x.due(x.send(0, 1), FULL);
        x.due(x.send(1, 1), FULL);
        x.due(x.replace(0, 0, 1), FULL);
        x.due(x.splice(0, 0, 0, 0), FULL);
    }

    private static void fullStillDelivers() {
        CHECK.about("a full object still delivers, shows and lets time pass");
        Talks x = new Talks(CHECK);
        Scenes.talk(x, 0, 2);
        Scenes.fill(x, 59);
        x.due(x.write(0, 77), 59);
        x.due(x.deliver(59, 1), 1);
        x.due(x.payload(1), 77);
        x.due(x.match(0, 1), true);
        x.due(x.send(0, 1), FULL);
        x.due(x.give(9), true);
        x.due(x.give(1), true);
        x.due(x.shown(59, 1), 77);
        x.due(x.start(0, true, 1, 0, 0), 2);
        x.due(x.write(2, 0), FULL);
        x.due(x.give(11), false);
        x.due(Scenes.ticks(x, 6), 1);
    }

    /** Readings in vain, each with terms of its own, may not use up what the last calls need. */
    private static void lastCall() {
        CHECK.about("An object is used for at most 512 calls");
        Talks x = Scenes.agreed(CHECK, 1);
        for (int i = 2; i < 11; i++) {
            x.start(1, true, 1 + i % 8, 4, i);
            x.write(i, i);
            x.due(x.splice(1, 0, 2 * i - 2, 0), 2 * i - 1);
        }
        x.start(1, false, 4, 0, 2);
        for (int i = 0; x.told().size() < Talks.CALL_LIMIT - 3; i++) {
            x.due(x.deliver(3 + 2 * (i % 9), 2 + i / 9 % 9), 0);
        }
        x.due(x.deliver(2, 11), 1);
        x.due(x.write(11, 5), 20);
        x.due(x.deliver(20, 2), 1);
        CHECK.due("calls", x.told().size(), Talks.CALL_LIMIT);
    }

    /** Six talks to their end, and messages of which none is like another. */
    private static void mostTerms() {
        CHECK.about("12 sessions and 60 messages of their own terms");
        Talks x = new Talks(CHECK);
        for (int pair = 0; pair < 6; pair++) {
            x.start(0, true, 1 + pair, 0, 1000 + pair);
            x.start(0, false, 8 - pair, 0, 1000 + pair);
        }
        for (int step = 0; step < 3; step++) {
            for (int pair = 0; pair < 6; pair++) {
                int writer = 2 * pair + step % 2;
                x.due(x.deliver(x.write(writer, 2000 + 10 * pair + step), writer ^ 1), 1);
            }
        }
        for (int i = 18; i < 60; i++) {
            x.due(x.send(i % 12, 3000 + i), i);
        }
        for (int i = 18; i < 60; i++) {
            x.due(x.deliver(i, i % 12), 0);
            x.due(x.deliver(i, (i % 12) ^ 1), 1);
            x.due(x.payload((i % 12) ^ 1), 3000 + i);
        }
        for (int pair = 0; pair < 6; pair++) {
            x.due(x.match(2 * pair, 2 * pair + 1), true);
            x.due(x.match(2 * pair, (2 * pair + 3) % 12), false);
        }
        for (int key = 9; key <= 20; key++) {
            x.due(x.give(key), true);
        }
        for (int i = 18; i < 60; i++) {
            x.due(x.shown(i, 1), 3000 + i);
        }
    }

    /**
     * Eleven responders have read the same first message and answered it, as messages 1 .. 11, each
     * with a prologue of its own, so that they share few terms. Session 0 can read message 1 alone;
     * the others it reads in vain, each with terms that no other reading has.
     */
    private static Talks answeredByEleven() {
        Talks x = new Talks(CHECK);
        x.due(x.start(0, true, 1, 0, 501), 0);
        for (int i = 1; i < 12; i++) {
            x.due(x.start(0, false, 1 + i % 8, 0, 500 + i), i);
        }
        x.due(x.write(0, 1000), 0);
        for (int i = 1; i < 12; i++) {
            x.due(x.deliver(0, i), 1);
            x.due(x.write(i, 2000 + i), i);
        }
        return x;
    }

    /** Sessions 0 and 1 agree, and session 0 sends until there are 60 messages. */
    private static void agreeAndSendTheRest(Talks x) {
        x.due(x.deliver(1, 0), 1);
        x.due(x.write(0, 3000), 12);
        x.due(x.deliver(12, 1), 1);
        for (int i = 13; i < 60; i++) {
            x.due(x.send(0, 4000 + i), i);
        }
    }

    private static void fullestTalks() {
        CHECK.about("12 sessions and 60 messages that share few terms");
        Talks x = answeredByEleven();
        agreeAndSendTheRest(x);
        for (int i = 13; i < 60; i++) {
            x.due(x.shown(i, 0), i - 13);
            x.due(x.deliver(i, 1), 1);
            x.due(x.payload(1), 4000 + i);
        }
        for (int i = 2; i < 12; i++) {
            x.due(x.deliver(12, i), 0);
        }
        for (int key = 10; key <= 20; key++) {
            x.due(x.give(key), true);
        }
        x.due(x.give(2), true);
        for (int i = 1; i < 12; i++) {
            x.due(x.shown(i, 1), 1 + i % 8);
            x.due(x.shown(i, 2), i % 8 == 1 ? 2000 + i : 0);
        }
        for (int i = 13; i < 60; i++) {
            x.due(x.shown(i, 1), 4000 + i);
        }
    }

    private static void fullestTalksBehindReadingsInVain() {
        CHECK.about("0 if not (nothing changes then): as many readings in vain as 512 calls leave room for");
        Talks x = answeredByEleven();
        int callsBehind = 3 + 47 + 4;
        for (int i = 0; x.told().size() < Talks.CALL_LIMIT - callsBehind; i++) {
            x.due(x.deliver(2 + i % 10, 0), 0);
        }
        agreeAndSendTheRest(x);
        x.due(x.sees(59, 1), 4);
        x.due(x.deliver(59, 1), 1);
        x.due(x.payload(1), 4059);
        x.due(x.match(0, 1), true);
        CHECK.due("calls", x.told().size(), Talks.CALL_LIMIT);
    }
}
