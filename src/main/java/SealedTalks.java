/**
 * Talks between two ends that first agree on keys by a pattern of messages and then send sealed
 * ones, all in signs: a secret is a term, and what can be worked out is what the terms allow.
 */
public final class SealedTalks {
    public static final int BAD = -1;
    public static final int CLOSED = -2;
    public static final int TURN = -3;
    public static final int FULL = -4;

    private static final int SESSION_LIMIT = 12;
    private static final int MESSAGE_LIMIT = 60;
    private static final int STATIC_KEYS = 8;
    private static final int NO_TERM = 0;
    private static final int NO_KEY = 0;

    private final Terms terms;
    private final Messages messages;
    private final Session[] sessions;
    private int started;

    public SealedTalks() {
        terms = new Terms();
        messages = new Messages();
        sessions = new Session[SESSION_LIMIT];
        started = 0;
    }

    public int start(int pattern, boolean initiator, int own, int remote, int prologue) {
        boolean knowsOther = pattern == 1 && initiator;
        if (pattern != 0 && pattern != 1) {
            return BAD;
        }
        if (!isStaticKey(own) || (knowsOther && !isStaticKey(remote))) {
            return BAD;
        }
        if (started >= SESSION_LIMIT) {
            return FULL;
        }
        Session session = new Session(terms);
        session.agreement.begin(pattern, initiator, own, knowsOther ? remote : NO_KEY, prologue);
        sessions[started] = session;
        started++;
        return started - 1;
    }

    public int write(int session, int payload) {
        Session writer = sessionAt(session);
        if (writer == null) {
            return BAD;
        }
        if (writer.closed) {
            return CLOSED;
        }
        if (!writer.agreement.isOwnTurn()) {
            return TURN;
        }
        if (messages.isFull()) {
            return FULL;
        }
        writer.writeNext(messages, payload);
        return messages.finish();
    }

    public int send(int session, int payload) {
        Session sender = sessionAt(session);
        if (sender == null) {
            return BAD;
        }
        if (sender.closed) {
            return CLOSED;
        }
        if (!sender.agreement.isDone()) {
            return TURN;
        }
        if (messages.isFull()) {
            return FULL;
        }
        sender.channel.sendNext(messages, payload);
        return messages.finish();
    }

    public int deliver(int message, int session) {
        Session receiver = sessionAt(session);
        if (receiver == null || !messages.has(message)) {
            return BAD;
        }
        if (receiver.closed) {
            return CLOSED;
        }
        int found = receiver.agreement.isDone()
                ? receiver.channel.acceptNext(messages, message)
                : receiver.readNext(messages, message);
        if (found == NO_TERM) {
            return 0;
        }
        receiver.notePayload(terms.valueOf(found));
        return 1;
    }

    public int splice(int a, int i, int b, int j) {
        int term = messages.partAt(b, j);
        if (term == NO_TERM || messages.partAt(a, i) == NO_TERM) {
            return BAD;
        }
        return messages.isFull() ? FULL : makeChanged(a, i, term);
    }

    public int replace(int a, int i, int v) {
        if (messages.partAt(a, i) == NO_TERM) {
            return BAD;
        }
        return messages.isFull() ? FULL : makeChanged(a, i, terms.num(v));
    }

    public boolean give(int key) {
        return terms.giveAway(key);
    }

    public int tick() {
        int closing = 0;
        for (int i = 0; i < started; i++) {
            Session session = sessionAt(i);
            if (session != null && session.passTick()) {
                closing++;
            }
        }
        return closing;
    }

    public int state(int session) {
        Session asked = sessionAt(session);
        if (asked == null) {
            return BAD;
        }
        if (asked.closed) {
            return 2;
        }
        return asked.agreement.isDone() ? 1 : 0;
    }

    public int steps(int session) {
        Session asked = sessionAt(session);
        return asked == null ? BAD : asked.agreement.stepsMade;
    }

    public int peer(int session) {
        Session asked = sessionAt(session);
        return asked == null ? BAD : asked.agreement.otherStatic;
    }

    public int payload(int session) {
        Session asked = sessionAt(session);
        return asked == null ? 0 : asked.latestPayload;
    }

    public int accepted(int session) {
        Session asked = sessionAt(session);
        return asked == null ? BAD : asked.payloadCount;
    }

    public boolean match(int session, int other) {
        Session one = sessionAt(session);
        Session two = sessionAt(other);
        if (one == null || two == null || !one.agreement.isDone() || !two.agreement.isDone()) {
            return false;
        }
        return one.channel.sendKey == two.channel.receiveKey
                && two.channel.sendKey == one.channel.receiveKey;
    }

    public boolean open(int session) {
        Session asked = sessionAt(session);
        if (asked == null || !asked.agreement.isDone()) {
            return false;
        }
        return terms.canWorkOut(asked.channel.sendKey)
                && terms.canWorkOut(asked.channel.receiveKey);
    }

    public int parts(int message) {
        return messages.has(message) ? messages.sizeOf(message) : BAD;
    }

    public int sees(int message, int part) {
        int term = messages.partAt(message, part);
        if (terms.isNum(term)) {
            return 1;
        }
        if (terms.isPub(term)) {
            return 2;
        }
        if (terms.isSeal(term)) {
            return terms.canOpen(term) ? 3 : 4;
        }
        return BAD;
    }

    public int shown(int message, int part) {
        int term = messages.partAt(message, part);
        int bare = terms.isSeal(term) && terms.canOpen(term) ? terms.insideOf(term) : term;
        return terms.isNum(bare) || terms.isPub(bare) ? terms.valueOf(bare) : 0;
    }

    public boolean same(int a, int i, int b, int j) {
        int term = messages.partAt(a, i);
        return term != NO_TERM && term == messages.partAt(b, j);
    }

    private static boolean isStaticKey(int key) {
        return key >= 1 && key <= STATIC_KEYS;
    }

    private Session sessionAt(int number) {
        return number >= 0 && number < started ? sessions[number] : null;
    }

    private int makeChanged(int message, int part, int term) {
        for (int i = 0; i < messages.sizeOf(message); i++) {
            messages.addPart(i == part ? term : messages.partAt(message, i));
        }
        return messages.finish();
    }

    /**
     * The private keys, and every term once: two terms made alike get the same number, so that
     * being the same is being the same number. Number 0 stands for no term.
     */
    private static final class Terms {
        private static final int NUM = 1;
        private static final int PUB = 2;
        private static final int DH = 3;
        private static final int HASH = 4;
        private static final int CHAIN = 5;
        private static final int KEY = 6;
        private static final int HALF = 7;
        private static final int SEAL = 8;

        // A session makes at most one ephemeral key.
        private static final int KEY_LIMIT = STATIC_KEYS + SESSION_LIMIT;
        // 12 sessions leave at most 34 terms each, 60 messages of send and replace at most 4 each,
        // and a reading that fails holds at most 14 until it drops them: some 664 in all.
        private static final int TERM_LIMIT = 720;
        private static final int BUCKETS = 128;

        private final int[] kind = new int[TERM_LIMIT];
        private final int[] first = new int[TERM_LIMIT];
        private final int[] second = new int[TERM_LIMIT];
        private final int[] third = new int[TERM_LIMIT];
        private final int[] fourth = new int[TERM_LIMIT];
        private final boolean[] known = new boolean[TERM_LIMIT];
        private final int[] nextInBucket = new int[TERM_LIMIT];
        private final int[] newestInBucket = new int[BUCKETS];
        private final boolean[] given = new boolean[KEY_LIMIT + 1];
        private int lastTerm = NO_TERM;
        private int lastKey = STATIC_KEYS;

        int num(int value) {
            return make(NUM, value, 0, 0, 0);
        }

        int pub(int key) {
            return make(PUB, key, 0, 0, 0);
        }

        int dh(int key, int other) {
            return make(DH, Math.min(key, other), Math.max(key, other), 0, 0);
        }

        int hash(int term, int other) {
            return make(HASH, term, other, 0, 0);
        }

        int chain(int term, int other) {
            return make(CHAIN, term, other, 0, 0);
        }

        int key(int term, int other) {
            return make(KEY, term, other, 0, 0);
        }

        int half(int term, int which) {
            return make(HALF, term, which, 0, 0);
        }

        int seal(int key, int counter, int bound, int inside) {
            return make(SEAL, key, counter, bound, inside);
        }

        boolean isNum(int term) {
            return kind[term] == NUM;
        }

        boolean isPub(int term) {
            return kind[term] == PUB;
        }

        boolean isSeal(int term) {
            return kind[term] == SEAL;
        }

        boolean isSealOf(int term, int key, int counter, int bound) {
            return isSeal(term) && first[term] == key && second[term] == counter
                    && third[term] == bound;
        }

        /** The int of a NUM, the private key of a PUB. */
        int valueOf(int term) {
            return first[term];
        }

        int insideOf(int seal) {
            return fourth[seal];
        }

        boolean canWorkOut(int term) {
            return known[term];
        }

        boolean canOpen(int seal) {
            return known[first[seal]];
        }

        int makeKey() {
            if (lastKey < KEY_LIMIT) {
                lastKey++;
            }
            return lastKey;
        }

        boolean giveAway(int key) {
            if (key < 1 || key > lastKey || given[key]) {
                return false;
            }
            given[key] = true;
            // What a term is made of has a smaller number, so one pass upward judges them all.
            for (int term = 1; term <= lastTerm; term++) {
                known[term] = judged(term);
            }
            return true;
        }

        int newest() {
            return lastTerm;
        }

        /** Forgets the terms made since a given one was the newest. */
        void dropBehind(int term) {
            for (int t = lastTerm; t > term; t--) {
                int bucket = bucketOf(kind[t], first[t], second[t], third[t], fourth[t]);
                newestInBucket[bucket] = nextInBucket[t];
                lastTerm = t - 1;
            }
        }

        private int make(int ofKind, int a, int b, int c, int d) {
            int bucket = bucketOf(ofKind, a, b, c, d);
            int term = newestInBucket[bucket];
            for (int i = 0; i < TERM_LIMIT && term != NO_TERM; i++) {
                if (kind[term] == ofKind && first[term] == a && second[term] == b
                        && third[term] == c && fourth[term] == d) {
                    return term;
                }
                term = nextInBucket[term];
            }
            if (lastTerm + 1 >= TERM_LIMIT) {
                return NO_TERM;
            }
            lastTerm++;
            kind[lastTerm] = ofKind;
            first[lastTerm] = a;
            second[lastTerm] = b;
            third[lastTerm] = c;
            fourth[lastTerm] = d;
            known[lastTerm] = judged(lastTerm);
            nextInBucket[lastTerm] = newestInBucket[bucket];
            newestInBucket[bucket] = lastTerm;
            return lastTerm;
        }

        private boolean judged(int term) {
            switch (kind[term]) {
                case DH:
                    return given[first[term]] || given[second[term]];
                case HASH:
                case CHAIN:
                case KEY:
                    return known[first[term]] && known[second[term]];
                case HALF:
                    return known[first[term]];
                default:
                    // All NUMs and PUBs are the carrier's, and every SEAL is part of a message.
                    return true;
            }
        }

        private static int bucketOf(int ofKind, int a, int b, int c, int d) {
            int mixed = (((ofKind * 31 + a) * 31 + b) * 31 + c) * 31 + d;
            return (mixed ^ (mixed >>> 7) ^ (mixed >>> 14)) & (BUCKETS - 1);
        }
    }

    /** The messages that were made, and the parts of the one that is being made. */
    private static final class Messages {
        // The longest messages have e, s and a payload.
        private static final int PART_LIMIT = 3;

        private final int[] sizes = new int[MESSAGE_LIMIT];
        private final int[] rows = new int[MESSAGE_LIMIT * PART_LIMIT];
        private int made = 0;

        boolean isFull() {
            return made >= MESSAGE_LIMIT;
        }

        boolean has(int message) {
            return message >= 0 && message < made;
        }

        int sizeOf(int message) {
            return has(message) ? sizes[message] : 0;
        }

        int partAt(int message, int part) {
            if (part < 0 || part >= sizeOf(message)) {
                return NO_TERM;
            }
            return rows[message * PART_LIMIT + part];
        }

        void addPart(int term) {
            if (isFull() || sizes[made] >= PART_LIMIT) {
                return;
            }
            rows[made * PART_LIMIT + sizes[made]] = term;
            sizes[made]++;
        }

        int finish() {
            made++;
            return made - 1;
        }
    }

    /** One end's side of a pattern: what it knows and how far it has come. */
    private static final class Agreement {
        private static final int NOTHING = 0;
        private static final int E = 1;
        private static final int S = 2;
        private static final int EE = 3;
        private static final int ES = 4;
        private static final int SE = 5;
        private static final int SS = 6;

        private static final int TOKENS_OF_MESSAGE = 4;
        private static final int MESSAGES_OF_PATTERN_0 = 3;
        private static final int MESSAGES_OF_PATTERN_1 = 2;
        private static final int[] TOKENS = {
            E, NOTHING, NOTHING, NOTHING,
            E, EE, S, ES,
            S, SE, NOTHING, NOTHING,
            E, ES, S, SS,
            E, EE, SE, NOTHING,
        };

        private final Terms terms;
        private int pattern = 0;
        private boolean initiator = false;
        private int ownStatic = NO_KEY;
        private int ownEphemeral = NO_KEY;
        private int otherStatic = NO_KEY;
        private int otherEphemeral = NO_KEY;
        private int h = NO_TERM;
        private int ck = NO_TERM;
        private int k = NO_TERM;
        private int n = 0;
        private int stepsMade = 0;

        Agreement(Terms terms) {
            this.terms = terms;
        }

        void begin(int ofPattern, boolean asInitiator, int own, int other, int prologue) {
            pattern = ofPattern;
            initiator = asInitiator;
            ownStatic = own;
            otherStatic = other;
            ck = terms.num(pattern);
            h = terms.hash(ck, terms.num(prologue));
            if (pattern == 1) {
                h = terms.hash(h, terms.pub(initiator ? otherStatic : ownStatic));
            }
        }

        void copyFrom(Agreement other) {
            pattern = other.pattern;
            initiator = other.initiator;
            ownStatic = other.ownStatic;
            ownEphemeral = other.ownEphemeral;
            otherStatic = other.otherStatic;
            otherEphemeral = other.otherEphemeral;
            h = other.h;
            ck = other.ck;
            k = other.k;
            n = other.n;
            stepsMade = other.stepsMade;
        }

        boolean isDone() {
            return stepsMade >= (pattern == 0 ? MESSAGES_OF_PATTERN_0 : MESSAGES_OF_PATTERN_1);
        }

        boolean isOwnTurn() {
            return !isDone() && initiator == (stepsMade % 2 == 0);
        }

        void writeNext(Messages messages, int payload) {
            for (int i = 0; i < TOKENS_OF_MESSAGE; i++) {
                int token = tokenAt(i);
                if (token == E) {
                    ownEphemeral = terms.makeKey();
                    addPart(messages, terms.pub(ownEphemeral));
                } else if (token == S) {
                    addPart(messages, closedUp(terms.pub(ownStatic)));
                } else if (token != NOTHING) {
                    mixKeys(token);
                }
            }
            addPart(messages, closedUp(terms.num(payload)));
            stepsMade++;
        }

        /** The NUM of the payload; NO_TERM, and this in disorder, if something is not as it must be. */
        int readNext(Messages messages, int message) {
            if (messages.sizeOf(message) != partsOfNext()) {
                return NO_TERM;
            }
            int at = 0;
            for (int i = 0; i < TOKENS_OF_MESSAGE; i++) {
                int token = tokenAt(i);
                if (token == E || token == S) {
                    if (!readKey(token, messages.partAt(message, at))) {
                        return NO_TERM;
                    }
                    at++;
                } else if (token != NOTHING) {
                    mixKeys(token);
                }
            }
            int part = messages.partAt(message, at);
            int inside = openedUp(part);
            if (!terms.isNum(inside)) {
                return NO_TERM;
            }
            h = terms.hash(h, part);
            stepsMade++;
            return inside;
        }

        private int tokenAt(int i) {
            int row = pattern * MESSAGES_OF_PATTERN_0 + stepsMade;
            int index = row * TOKENS_OF_MESSAGE + i;
            return index >= 0 && index < TOKENS.length ? TOKENS[index] : NOTHING;
        }

        private int partsOfNext() {
            int count = 1;
            for (int i = 0; i < TOKENS_OF_MESSAGE; i++) {
                if (tokenAt(i) == E || tokenAt(i) == S) {
                    count++;
                }
            }
            return count;
        }

        private void addPart(Messages messages, int part) {
            messages.addPart(part);
            h = terms.hash(h, part);
        }

        private boolean readKey(int token, int part) {
            int inside = token == E ? part : openedUp(part);
            if (!terms.isPub(inside)) {
                return false;
            }
            if (token == E) {
                otherEphemeral = terms.valueOf(inside);
            } else {
                otherStatic = terms.valueOf(inside);
            }
            h = terms.hash(h, part);
            return true;
        }

        /** The part that a term is put as. */
        private int closedUp(int term) {
            if (k == NO_TERM) {
                return term;
            }
            n++;
            return terms.seal(k, n - 1, h, term);
        }

        /** The term that is taken from a part, or NO_TERM. */
        private int openedUp(int part) {
            if (k == NO_TERM) {
                return part;
            }
            if (!terms.isSealOf(part, k, n, h)) {
                return NO_TERM;
            }
            n++;
            return terms.insideOf(part);
        }

        private void mixKeys(int token) {
            boolean withOwnEphemeral = token == EE || token == (initiator ? ES : SE);
            boolean withOtherEphemeral = token == EE || token == (initiator ? SE : ES);
            int d = terms.dh(withOwnEphemeral ? ownEphemeral : ownStatic,
                    withOtherEphemeral ? otherEphemeral : otherStatic);
            k = terms.key(ck, d);
            ck = terms.chain(ck, d);
            n = 0;
        }
    }

    /** What a done session sends and accepts with. */
    private static final class Channel {
        private static final int WINDOW = 8;

        private final Terms terms;
        private final boolean[] taken = new boolean[MESSAGE_LIMIT];
        private int sendKey = NO_TERM;
        private int receiveKey = NO_TERM;
        private int sent = 0;
        private int top = -1;

        Channel(Terms terms) {
            this.terms = terms;
        }

        void setKeys(int ck, boolean initiator) {
            sendKey = terms.half(ck, initiator ? 1 : 2);
            receiveKey = terms.half(ck, initiator ? 2 : 1);
        }

        void sendNext(Messages messages, int payload) {
            messages.addPart(terms.num(sent));
            messages.addPart(terms.seal(sendKey, sent, terms.num(0), terms.num(payload)));
            sent++;
        }

        /** The NUM of the payload, or NO_TERM if the message is not accepted. */
        int acceptNext(Messages messages, int message) {
            int counterPart = messages.partAt(message, 0);
            int sealPart = messages.partAt(message, 1);
            if (messages.sizeOf(message) != 2 || !terms.isNum(counterPart)) {
                return NO_TERM;
            }
            int counter = terms.valueOf(counterPart);
            if (!isFresh(counter)
                    || !terms.isSealOf(sealPart, receiveKey, counter, terms.num(0))
                    || !terms.isNum(terms.insideOf(sealPart))) {
                return NO_TERM;
            }
            taken[counter] = true;
            top = Math.max(top, counter);
            return terms.insideOf(sealPart);
        }

        private boolean isFresh(int counter) {
            // Counters of sealed messages stay under the number of messages.
            return counter >= 0 && counter < MESSAGE_LIMIT && counter > top - WINDOW
                    && !taken[counter];
        }
    }

    private static final class Session {
        private static final int TICKS_UNDONE = 6;
        private static final int TICKS_DONE = 30;

        private final Terms terms;
        private final Channel channel;
        private final Agreement agreement;
        // A reading is tried here first, so that one that fails changes nothing.
        private final Agreement draft;
        private boolean closed = false;
        private int ticks = 0;
        private int latestPayload = 0;
        private int payloadCount = 0;

        Session(Terms terms) {
            this.terms = terms;
            channel = new Channel(terms);
            agreement = new Agreement(terms);
            draft = new Agreement(terms);
        }

        void writeNext(Messages messages, int payload) {
            agreement.writeNext(messages, payload);
            endAgreement();
        }

        /** The NUM of the payload, or NO_TERM if the message can't be read. */
        int readNext(Messages messages, int message) {
            if (agreement.isOwnTurn()) {
                return NO_TERM;
            }
            int newest = terms.newest();
            draft.copyFrom(agreement);
            int found = draft.readNext(messages, message);
            if (found == NO_TERM) {
                terms.dropBehind(newest);
                return NO_TERM;
            }
            agreement.copyFrom(draft);
            endAgreement();
            return found;
        }

        void notePayload(int payload) {
            latestPayload = payload;
            payloadCount++;
        }

        /** Whether this tick closes the session. */
        boolean passTick() {
            if (closed) {
                return false;
            }
            ticks++;
            closed = ticks >= (agreement.isDone() ? TICKS_DONE : TICKS_UNDONE);
            return closed;
        }

        private void endAgreement() {
            if (agreement.isDone()) {
                channel.setKeys(agreement.ck, agreement.initiator);
                ticks = 0;
            }
        }
    }
}
