/**
 * Runs of 512 calls, the same ones every time, on the class and on the model: each call's answer
 * must be the model's. Every second call only asks.
 */
public final class ModelTest {
    private static final int RUNS = 4000;
    private static final int CALLS = 512;

    private final Check check;
    private final SealedTalks talks = new SealedTalks();
    private final Model model = new Model();
    private final int ticksInHundred;
    private final boolean agreeFirst;
    private long seed;
    private int sessions = 0;
    private int messages = 0;
    private int matched = 0;
    private int opened = 0;
    private int transported = 0;
    private int spoiledReads = 0;

    private ModelTest(Check check, int run) {
        this.check = check;
        seed = run * 7919L + 1;
        ticksInHundred = run % 4;
        agreeFirst = run % 3 == 0;
    }

    public static void main(String[] args) {
        Check check = new Check();
        int matched = 0;
        int opened = 0;
        int transported = 0;
        int spoiledReads = 0;
        for (int run = 0; run < RUNS && check.wrong() < 20; run++) {
            check.about("run " + run);
            ModelTest test = new ModelTest(check, run);
            test.run();
            matched += test.matched;
            opened += test.opened;
            transported += test.transported;
            spoiledReads += test.spoiledReads;
        }
        System.out.println(matched + " sessions found their match, " + opened + " are open, "
                + transported + " transport messages accepted, " + spoiledReads + " deliveries in vain");
        check.about("the runs reach far enough");
        check.due("matched", matched > 1000, true);
        check.due("opened", opened > 100, true);
        check.due("transported", transported > 10000, true);
        check.due("spoiled", spoiledReads > 1000, true);
        check.end();
    }

    private void run() {
        int calls = agreeFirst ? agree() : 0;
        for (int call = calls; call < CALLS; call += 2) {
            act();
            ask();
        }
        for (int s = 0; s < sessions; s++) {
            matched += hasMatch(s) ? 1 : 0;
            opened += model.open(s) ? 1 : 0;
        }
    }

    /** Two sessions that come to be done without trouble; how many calls that took. */
    private int agree() {
        int pattern = below(2);
        start(pattern, true, 1, 2, 0);
        start(pattern, false, 2, 0, 0);
        for (int step = 0; step < 3 - pattern; step++) {
            write(step % 2, step);
            deliver(step, 1 - step % 2);
        }
        return 8 - 2 * pattern;
    }

    private boolean hasMatch(int session) {
        for (int other = 0; other < sessions; other++) {
            if (model.match(session, other)) {
                return true;
            }
        }
        return false;
    }

    private int below(int bound) {
        seed = seed * 6364136223846793005L + 1442695040888963407L;
        return (int) ((seed >>> 33) % bound);
    }

    /** Mostly one that is there, the newest ones more often, now and then one that is not. */
    private int among(int count) {
        if (count == 0 || below(60) == 0) {
            return below(4) == 0 ? -1 - below(3) : count + below(2);
        }
        return below(2) == 0 ? count - 1 - below(Math.min(count, 4)) : below(count);
    }

    /** Where two have agreed first, mostly one of them. */
    private int anySession() {
        return agreeFirst && below(4) != 0 ? below(2) : among(sessions);
    }

    private int anyInt() {
        int choice = below(20);
        return choice == 0 ? Integer.MIN_VALUE : choice == 1 ? Integer.MAX_VALUE : below(16) - 3;
    }

    private void act() {
        int choice = below(100);
        if (choice < 8) {
            start();
        } else if (choice < 30) {
            write(anySession(), anyInt());
        } else if (choice < 40) {
            send();
        } else if (choice < 90) {
            deliver(among(messages), anySession());
        } else if (choice < 92) {
            splice();
        } else if (choice < 94) {
            replace();
        } else if (choice < 97) {
            give();
        } else if (choice < 97 + ticksInHundred) {
            check.due("tick()", talks.tick(), model.tick());
        } else {
            deliver(among(messages), anySession());
        }
    }

    private void start() {
        int pattern = below(30) == 0 ? below(5) - 2 : below(2);
        boolean initiator = below(2) == 0;
        int own = below(30) == 0 ? below(12) - 1 : 1 + below(2);
        int remote = below(30) == 0 ? below(12) - 1 : 1 + below(2);
        start(pattern, initiator, own, remote, below(20) == 0 ? 1 : 0);
    }

    private void start(int pattern, boolean initiator, int own, int remote, int prologue) {
        int got = talks.start(pattern, initiator, own, remote, prologue);
        int want = model.start(pattern, initiator, own, remote, prologue);
        check.due("start(" + pattern + ", " + initiator + ", " + own + ", " + remote + ", " + prologue + ")", got, want);
        sessions += want >= 0 ? 1 : 0;
    }

    private void write(int session, int payload) {
        int want = model.write(session, payload);
        check.due("write(" + session + ", " + payload + ")", talks.write(session, payload), want);
        messages += want >= 0 ? 1 : 0;
    }

    private void send() {
        int session = anySession();
        int payload = anyInt();
        int want = model.send(session, payload);
        check.due("send(" + session + ", " + payload + ")", talks.send(session, payload), want);
        messages += want >= 0 ? 1 : 0;
    }

    private void deliver(int message, int session) {
        boolean wasDone = model.state(session) == 1;
        int want = model.deliver(message, session);
        check.due("deliver(" + message + ", " + session + ")", talks.deliver(message, session), want);
        transported += wasDone && want == 1 ? 1 : 0;
        spoiledReads += want == 0 ? 1 : 0;
    }

    private void splice() {
        int a = among(messages);
        int i = below(4) - (below(9) == 0 ? 1 : 0);
        int b = among(messages);
        int j = below(3) == 0 ? below(4) : i;
        int want = model.splice(a, i, b, j);
        check.due("splice(" + a + ", " + i + ", " + b + ", " + j + ")", talks.splice(a, i, b, j), want);
        messages += want >= 0 ? 1 : 0;
    }

    private void replace() {
        int a = among(messages);
        int i = below(4) - (below(9) == 0 ? 1 : 0);
        int v = anyInt();
        int want = model.replace(a, i, v);
        check.due("replace(" + a + ", " + i + ", " + v + ")", talks.replace(a, i, v), want);
        messages += want >= 0 ? 1 : 0;
    }

    private void give() {
        int key = below(24) - 1;
        check.due("give(" + key + ")", talks.give(key), model.give(key));
    }

    private void ask() {
        int choice = below(11);
        if (choice < 7) {
            askSession(choice, anySession());
        } else {
            askPart(choice, among(messages), below(5) - 1);
        }
    }

    private void askSession(int choice, int s) {
        int other = anySession();
        switch (choice) {
            case 0 -> check.due("state(" + s + ")", talks.state(s), model.state(s));
            case 1 -> check.due("steps(" + s + ")", talks.steps(s), model.steps(s));
            case 2 -> check.due("peer(" + s + ")", talks.peer(s), model.peer(s));
            case 3 -> check.due("payload(" + s + ")", talks.payload(s), model.payload(s));
            case 4 -> check.due("accepted(" + s + ")", talks.accepted(s), model.accepted(s));
            case 5 -> check.due("open(" + s + ")", talks.open(s), model.open(s));
            default -> check.due("match(" + s + ", " + other + ")",
                    talks.match(s, other), model.match(s, other));
        }
    }

    private void askPart(int choice, int m, int i) {
        int other = among(messages);
        int j = below(5) - 1;
        switch (choice) {
            case 7 -> check.due("parts(" + m + ")", talks.parts(m), model.parts(m));
            case 8 -> check.due("sees(" + m + ", " + i + ")", talks.sees(m, i), model.sees(m, i));
            case 9 -> check.due("shown(" + m + ", " + i + ")", talks.shown(m, i), model.shown(m, i));
            default -> check.due("same(" + m + ", " + i + ", " + other + ", " + j + ")",
                    talks.same(m, i, other, j), model.same(m, i, other, j));
        }
    }
}
