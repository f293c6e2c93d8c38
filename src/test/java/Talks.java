import java.util.ArrayList;
import java.util.List;

/**
 * A new SealedTalks whose calls are told and counted: an answer that is not due is printed with its
 * call, and no test leans on a call behind the 512th, whose answer is free.
 */
final class Talks {
    static final int CALL_LIMIT = 512;

    private final SealedTalks inner = new SealedTalks();
    private final List<String> told = new ArrayList<>();
    private final Check check;
    private int made = 0;

    Talks(Check check) {
        this.check = check;
    }

    /** Said of the latest call. */
    void due(int got, int want) {
        check.due(told.get(told.size() - 1), got, want);
    }

    /** Said of the latest call. */
    void due(boolean got, boolean want) {
        check.due(told.get(told.size() - 1), got, want);
    }

    /** All calls until now, each with its answer. */
    List<String> told() {
        return told;
    }

    /** How many messages were made. */
    int made() {
        return made;
    }

    int start(int pattern, boolean initiator, int own, int remote, int prologue) {
        return tell(inner.start(pattern, initiator, own, remote, prologue),
                "start", pattern, initiator, own, remote, prologue);
    }

    int write(int session, int payload) {
        return count(tell(inner.write(session, payload), "write", session, payload));
    }

    int send(int session, int payload) {
        return count(tell(inner.send(session, payload), "send", session, payload));
    }

    int deliver(int message, int session) {
        return tell(inner.deliver(message, session), "deliver", message, session);
    }

    int splice(int a, int i, int b, int j) {
        return count(tell(inner.splice(a, i, b, j), "splice", a, i, b, j));
    }

    int replace(int a, int i, int v) {
        return count(tell(inner.replace(a, i, v), "replace", a, i, v));
    }

    boolean give(int key) {
        return tell(inner.give(key), "give", key);
    }

    int tick() {
        return tell(inner.tick(), "tick");
    }

    int state(int session) {
        return tell(inner.state(session), "state", session);
    }

    int steps(int session) {
        return tell(inner.steps(session), "steps", session);
    }

    int peer(int session) {
        return tell(inner.peer(session), "peer", session);
    }

    int payload(int session) {
        return tell(inner.payload(session), "payload", session);
    }

    int accepted(int session) {
        return tell(inner.accepted(session), "accepted", session);
    }

    boolean match(int session, int other) {
        return tell(inner.match(session, other), "match", session, other);
    }

    boolean open(int session) {
        return tell(inner.open(session), "open", session);
    }

    int parts(int message) {
        return tell(inner.parts(message), "parts", message);
    }

    int sees(int message, int part) {
        return tell(inner.sees(message, part), "sees", message, part);
    }

    int shown(int message, int part) {
        return tell(inner.shown(message, part), "shown", message, part);
    }

    boolean same(int a, int i, int b, int j) {
        return tell(inner.same(a, i, b, j), "same", a, i, b, j);
    }

    private int count(int message) {
        made += message >= 0 ? 1 : 0;
        return message;
    }

    private <T> T tell(T answer, String name, Object... arguments) {
        StringBuilder text = new StringBuilder(name).append('(');
        for (int i = 0; i < arguments.length; i++) {
            text.append(i == 0 ? "" : ", ").append(arguments[i]);
        }
        told.add(text.append(") = ").append(answer).toString());
        if (told.size() == CALL_LIMIT + 1) {
            check.due("calls that this test makes of one object", told.size(), CALL_LIMIT);
        }
        return answer;
    }
}
