import java.util.ArrayList;
import java.util.HashSet;
import java.util.List;
import java.util.Set;

/** The document again, word by word and without thrift: terms are records that compare by value. */
final class Model {
    sealed interface Term permits Num, Pub, Dh, Hash, Chain, Key, Half, Seal { }

    record Num(int value) implements Term { }

    record Pub(int key) implements Term { }

    record Dh(Set<Integer> keys) implements Term { }

    record Hash(Term a, Term b) implements Term { }

    record Chain(Term a, Term b) implements Term { }

    record Key(Term a, Term b) implements Term { }

    record Half(Term of, int which) implements Term { }

    record Seal(Term key, int counter, Term bound, Term inside) implements Term { }

    private static final String[][] PATTERNS = {{"e", "e ee s es", "s se"}, {"e es s ss", "e ee se"}};

    /** What a session knows while it agrees; copied before each reading. */
    static final class Side implements Cloneable {
        int pattern;
        boolean initiator;
        int own;
        int ephemeral;
        int otherEphemeral;
        int otherStatic;
        Term h;
        Term ck;
        Term k;
        int n;
        int steps;

        Side copy() {
            try {
                return (Side) clone();
            } catch (CloneNotSupportedException e) {
                throw new IllegalStateException(e);
            }
        }

        boolean done() {
            return steps == PATTERNS[pattern].length;
        }

        String[] tokens() {
            return PATTERNS[pattern][steps].split(" ");
        }

        void dh(char ofInitiator, char ofResponder) {
            char mine = initiator ? ofInitiator : ofResponder;
            char theirs = initiator ? ofResponder : ofInitiator;
            Set<Integer> keys = new HashSet<>();
            keys.add(mine == 'e' ? ephemeral : own);
            keys.add(theirs == 'e' ? otherEphemeral : otherStatic);
            Term d = new Dh(keys);
            k = new Key(ck, d);
            ck = new Chain(ck, d);
            n = 0;
        }

        Term put(Term t) {
            Term part = t;
            if (k != null) {
                part = new Seal(k, n, h, t);
                n++;
            }
            h = new Hash(h, part);
            return part;
        }

        Term take(Term part) {
            Term taken = part;
            if (k != null) {
                if (!(part instanceof Seal seal) || !seal.key.equals(k) || seal.counter != n
                        || !seal.bound.equals(h)) {
                    return null;
                }
                taken = seal.inside;
                n++;
            }
            h = new Hash(h, part);
            return taken;
        }
    }

    static final class Talk {
        Side side = new Side();
        int startedAt;
        int doneAt;
        boolean closed;
        int payload;
        int accepted;
        int sent;
        final Set<Integer> counters = new HashSet<>();

        Term sending() {
            return new Half(side.ck, side.initiator ? 1 : 2);
        }

        Term receiving() {
            return new Half(side.ck, side.initiator ? 2 : 1);
        }
    }

    private final List<Talk> talks = new ArrayList<>();
    private final List<List<Term>> messages = new ArrayList<>();
    private final Set<Integer> given = new HashSet<>();
    private int lastKey = 8;
    private int now = 0;

    int start(int pattern, boolean initiator, int own, int remote, int prologue) {
        if (pattern < 0 || pattern > 1 || own < 1 || own > 8) {
            return SealedTalks.BAD;
        }
        if (pattern == 1 && initiator && (remote < 1 || remote > 8)) {
            return SealedTalks.BAD;
        }
        if (talks.size() == 12) {
            return SealedTalks.FULL;
        }
        Talk talk = new Talk();
        talk.startedAt = now;
        Side side = talk.side;
        side.pattern = pattern;
        side.initiator = initiator;
        side.own = own;
        side.otherStatic = pattern == 1 && initiator ? remote : 0;
        side.ck = new Num(pattern);
        side.h = new Hash(new Num(pattern), new Num(prologue));
        if (pattern == 1) {
            side.h = new Hash(side.h, new Pub(initiator ? remote : own));
        }
        talks.add(talk);
        return talks.size() - 1;
    }

    int write(int session, int payload) {
        Talk talk = talk(session);
        if (talk == null) {
            return SealedTalks.BAD;
        }
        if (talk.closed) {
            return SealedTalks.CLOSED;
        }
        Side side = talk.side;
        if (side.done() || (side.steps % 2 == 0) != side.initiator) {
            return SealedTalks.TURN;
        }
        if (messages.size() == 60) {
            return SealedTalks.FULL;
        }
        List<Term> parts = new ArrayList<>();
        for (String token : side.tokens()) {
            if (token.equals("e")) {
                lastKey++;
                side.ephemeral = lastKey;
                parts.add(new Pub(lastKey));
                side.h = new Hash(side.h, new Pub(lastKey));
            } else if (token.equals("s")) {
                parts.add(side.put(new Pub(side.own)));
            } else {
                side.dh(token.charAt(0), token.charAt(1));
            }
        }
        parts.add(side.put(new Num(payload)));
        step(talk);
        return add(parts);
    }

    int send(int session, int payload) {
        Talk talk = talk(session);
        if (talk == null) {
            return SealedTalks.BAD;
        }
        if (talk.closed) {
            return SealedTalks.CLOSED;
        }
        if (!talk.side.done()) {
            return SealedTalks.TURN;
        }
        if (messages.size() == 60) {
            return SealedTalks.FULL;
        }
        int counter = talk.sent++;
        return add(List.of(new Num(counter),
                new Seal(talk.sending(), counter, new Num(0), new Num(payload))));
    }

    int deliver(int message, int session) {
        Talk talk = talk(session);
        if (talk == null || message < 0 || message >= messages.size()) {
            return SealedTalks.BAD;
        }
        if (talk.closed) {
            return SealedTalks.CLOSED;
        }
        List<Term> parts = messages.get(message);
        return (talk.side.done() ? accepts(talk, parts) : reads(talk, parts)) ? 1 : 0;
    }

    private boolean reads(Talk talk, List<Term> parts) {
        if ((talk.side.steps % 2 == 0) == talk.side.initiator) {
            return false;
        }
        Side before = talk.side.copy();
        Term inside = read(talk.side, parts);
        if (inside instanceof Num num) {
            step(talk);
            talk.payload = num.value;
            talk.accepted++;
            return true;
        }
        talk.side = before;
        return false;
    }

    private static Term read(Side side, List<Term> parts) {
        int needed = 1;
        for (String token : side.tokens()) {
            needed += token.length() == 1 ? 1 : 0;
        }
        if (parts.size() != needed) {
            return null;
        }
        int at = 0;
        for (String token : side.tokens()) {
            if (token.equals("e")) {
                Term part = parts.get(at++);
                if (!(part instanceof Pub pub)) {
                    return null;
                }
                side.otherEphemeral = pub.key;
                side.h = new Hash(side.h, part);
            } else if (token.equals("s")) {
                if (!(side.take(parts.get(at++)) instanceof Pub pub)) {
                    return null;
                }
                side.otherStatic = pub.key;
            } else {
                side.dh(token.charAt(0), token.charAt(1));
            }
        }
        return side.take(parts.get(at));
    }

    private boolean accepts(Talk talk, List<Term> parts) {
        if (parts.size() != 2 || !(parts.get(0) instanceof Num number) || number.value < 0) {
            return false;
        }
        int c = number.value;
        if (!(parts.get(1) instanceof Seal seal) || !seal.key.equals(talk.receiving())
                || seal.counter != c || !seal.bound.equals(new Num(0))
                || !(seal.inside instanceof Num inside)) {
            return false;
        }
        int top = -1;
        for (int counter : talk.counters) {
            top = Math.max(top, counter);
        }
        if (c <= top - 8 || talk.counters.contains(c)) {
            return false;
        }
        talk.counters.add(c);
        talk.payload = inside.value;
        talk.accepted++;
        return true;
    }

    int splice(int a, int i, int b, int j) {
        return part(b, j) == null ? SealedTalks.BAD : changed(a, i, part(b, j));
    }

    int replace(int a, int i, int v) {
        return changed(a, i, new Num(v));
    }

    private int changed(int a, int i, Term term) {
        if (part(a, i) == null) {
            return SealedTalks.BAD;
        }
        if (messages.size() == 60) {
            return SealedTalks.FULL;
        }
        List<Term> parts = new ArrayList<>(messages.get(a));
        parts.set(i, term);
        return add(parts);
    }

    boolean give(int key) {
        return key >= 1 && key <= lastKey && given.add(key);
    }

    int tick() {
        now++;
        int closing = 0;
        for (Talk talk : talks) {
            int end = talk.side.done() ? talk.doneAt + 30 : talk.startedAt + 6;
            if (!talk.closed && now == end) {
                talk.closed = true;
                closing++;
            }
        }
        return closing;
    }

    int state(int session) {
        Talk talk = talk(session);
        if (talk == null) {
            return SealedTalks.BAD;
        }
        return talk.closed ? 2 : talk.side.done() ? 1 : 0;
    }

    int steps(int session) {
        return talk(session) == null ? SealedTalks.BAD : talk(session).side.steps;
    }

    int peer(int session) {
        return talk(session) == null ? SealedTalks.BAD : talk(session).side.otherStatic;
    }

    int payload(int session) {
        return talk(session) == null ? 0 : talk(session).payload;
    }

    int accepted(int session) {
        return talk(session) == null ? SealedTalks.BAD : talk(session).accepted;
    }

    boolean match(int session, int other) {
        Talk a = talk(session);
        Talk b = talk(other);
        return a != null && b != null && a.side.done() && b.side.done()
                && a.sending().equals(b.receiving()) && b.sending().equals(a.receiving());
    }

    boolean open(int session) {
        Talk talk = talk(session);
        return talk != null && talk.side.done() && worksOut(talk.sending())
                && worksOut(talk.receiving());
    }

    int parts(int message) {
        return message < 0 || message >= messages.size() ? SealedTalks.BAD
                : messages.get(message).size();
    }

    int sees(int message, int part) {
        Term term = part(message, part);
        if (term == null) {
            return SealedTalks.BAD;
        }
        if (term instanceof Seal seal) {
            return worksOut(seal.key) ? 3 : 4;
        }
        return term instanceof Num ? 1 : 2;
    }

    int shown(int message, int part) {
        Term term = part(message, part);
        if (term instanceof Seal seal && worksOut(seal.key)) {
            term = seal.inside;
        }
        if (term instanceof Num num) {
            return num.value;
        }
        return term instanceof Pub pub ? pub.key : 0;
    }

    boolean same(int a, int i, int b, int j) {
        return part(a, i) != null && part(a, i).equals(part(b, j));
    }

    private boolean worksOut(Term term) {
        if (term instanceof Dh dh) {
            return dh.keys.stream().anyMatch(given::contains);
        }
        if (term instanceof Hash hash) {
            return worksOut(hash.a) && worksOut(hash.b);
        }
        if (term instanceof Chain chain) {
            return worksOut(chain.a) && worksOut(chain.b);
        }
        if (term instanceof Key key) {
            return worksOut(key.a) && worksOut(key.b);
        }
        return term instanceof Half half ? worksOut(half.of) : true;
    }

    private void step(Talk talk) {
        talk.side.steps++;
        if (talk.side.done()) {
            talk.doneAt = now;
        }
    }

    private int add(List<Term> parts) {
        messages.add(parts);
        return messages.size() - 1;
    }

    private Talk talk(int session) {
        return session < 0 || session >= talks.size() ? null : talks.get(session);
    }

    private Term part(int message, int part) {
        if (message < 0 || message >= messages.size()) {
            return null;
        }
        List<Term> parts = messages.get(message);
        return part < 0 || part >= parts.size() ? null : parts.get(part);
    }
}
