import java.util.List;
import java.util.function.Consumer;
import java.util.function.ToIntFunction;

/**
 * Two objects with the same calls behind them, one of which makes a call more that must change
 * nothing: whatever is asked and done later, both must answer the same.
 */
final class Twins {
    private static final int SESSIONS = 4;
    private static final List<Consumer<Talks>> LATER = List.of(Twins::askSessions,
            Twins::askMessages, Twins::goOn, Twins::deliverAllAndGoOn, Twins::letTimePass);

    private Twins() {
    }

    static void changesNothing(Check check, Consumer<Talks> scene, ToIntFunction<Talks> call, int due) {
        for (Consumer<Talks> later : LATER) {
            Talks one = new Talks(check);
            scene.accept(one);
            one.due(call.applyAsInt(one), due);
            String called = one.told().get(one.told().size() - 1);
            Talks other = new Talks(check);
            scene.accept(other);
            check.due("same beginning", other.told().equals(headOf(one)), true);
            int behind = one.told().size();
            later.accept(one);
            later.accept(other);
            compare(check, called, one.told().subList(behind, one.told().size()),
                    other.told().subList(behind - 1, other.told().size()));
        }
    }

    private static List<String> headOf(Talks x) {
        return x.told().subList(0, x.told().size() - 1);
    }

    private static void compare(Check check, String called, List<String> one, List<String> other) {
        for (int i = 0; i < one.size() && i < other.size(); i++) {
            boolean alike = one.get(i).equals(other.get(i));
            check.due("behind " + called + ": " + one.get(i) + ", without it: " + other.get(i) + ": alike",
                    alike, true);
            if (!alike) {
                return;
            }
        }
    }

    private static void askSessions(Talks x) {
        for (int s = 0; s <= 12; s++) {
            x.state(s);
            x.steps(s);
            x.peer(s);
            x.payload(s);
            x.accepted(s);
            x.open(s);
        }
        for (int s = 0; s < SESSIONS; s++) {
            for (int other = 0; other < SESSIONS; other++) {
                x.match(s, other);
            }
        }
    }

    private static void askMessages(Talks x) {
        for (int m = 0; m <= 60; m++) {
            x.parts(m);
        }
        for (int m = 0; m <= 60; m += m == 9 ? 46 : 1) {
            for (int part = 0; part < 3; part++) {
                x.sees(m, part);
                x.shown(m, part);
                x.same(m, part, 1, part);
            }
        }
    }

    /** Talks that go on show what a session holds inside. */
    private static void goOn(Talks x) {
        x.start(0, true, 5, 0, 3);
        for (int round = 0; round < 3; round++) {
            for (int s = 0; s < SESSIONS; s++) {
                deliverToAll(x, x.write(s, 40 + round));
            }
        }
        for (int round = 0; round < 2; round++) {
            for (int s = 0; s < SESSIONS; s++) {
                deliverToAll(x, x.send(s, 50 + round));
            }
        }
        for (int key = 1; key <= 21; key++) {
            x.give(key);
        }
        for (int m = 0; m < 20; m++) {
            for (int part = 0; part < 3; part++) {
                x.shown(m, part);
            }
        }
        askSessions(x);
    }

    private static void deliverAllAndGoOn(Talks x) {
        for (int m = 0; m < 14; m++) {
            deliverToAll(x, m);
        }
        goOn(x);
    }

    private static void deliverToAll(Talks x, int message) {
        for (int s = 0; s < SESSIONS; s++) {
            x.deliver(message, s);
        }
    }

    private static void letTimePass(Talks x) {
        for (int i = 0; i < 31; i++) {
            x.tick();
            for (int s = 0; s < SESSIONS; s++) {
                x.state(s);
            }
        }
    }
}
