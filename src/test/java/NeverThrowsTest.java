/**
 * No call may ever throw, for any arguments in any state: each call with each of many arguments,
 * in objects that are new, in talks, full and closed, and also behind the 512th call.
 */
public final class NeverThrowsTest {
    private static final int[] NUMBERS = {
        Integer.MIN_VALUE, Integer.MIN_VALUE + 1, -60, -2, -1, 0, 1, 2, 3, 8, 9, 11, 12, 20, 21, 59, 60,
        1 << 16, Integer.MAX_VALUE / 3, Integer.MAX_VALUE - 1, Integer.MAX_VALUE,
    };
    private static final Check CHECK = new Check();

    private interface Act {
        void on(SealedTalks x);
    }

    public static void main(String[] args) {
        for (int scene = 0; scene < 6; scene++) {
            CHECK.about("scene " + scene);
            SealedTalks x = set(scene);
            for (int a : NUMBERS) {
                oneNumber(x, a);
                for (int b : NUMBERS) {
                    twoNumbers(x, a, b);
                    for (int c : NUMBERS) {
                        moreNumbers(x, a, b, c);
                    }
                }
            }
            never("tick()", y -> y.tick(), x);
        }
        CHECK.end();
    }

    private static SealedTalks set(int scene) {
        SealedTalks x = new SealedTalks();
        int pattern = scene % 2;
        if (scene == 0) {
            return x;
        }
        x.start(pattern, true, 1, 2, 0);
        x.start(pattern, false, 2, 0, 0);
        for (int step = 0; step < 3 && scene != 1; step++) {
            x.deliver(x.write(step % 2, step), 1 - step % 2);
        }
        for (int i = 0; i < 60 && scene >= 3; i++) {
            x.send(i % 2, i);
        }
        for (int i = 0; i < 31 && scene >= 5; i++) {
            x.tick();
        }
        return x;
    }

    private static void never(String call, Act act, SealedTalks x) {
        boolean threw = false;
        try {
            act.on(x);
        } catch (RuntimeException | StackOverflowError e) {
            threw = true;
        }
        CHECK.due(call + " threw", threw, false);
    }

    private static void oneNumber(SealedTalks x, int a) {
        never("state, steps, peer, payload, accepted, open, parts of " + a, y -> {
            y.state(a);
            y.steps(a);
            y.peer(a);
            y.payload(a);
            y.accepted(a);
            y.open(a);
            y.parts(a);
        }, x);
        never("give " + a, y -> y.give(a), x);
    }

    private static void twoNumbers(SealedTalks x, int a, int b) {
        String of = a + ", " + b;
        never("match, sees, shown of " + of, y -> {
            y.match(a, b);
            y.sees(a, b);
            y.shown(a, b);
        }, x);
        never("write " + of, y -> y.write(a, b), x);
        never("send " + of, y -> y.send(a, b), x);
        never("deliver " + of, y -> y.deliver(a, b), x);
    }

    private static void moreNumbers(SealedTalks x, int a, int b, int c) {
        String of = a + ", " + b + ", " + c;
        never("replace " + of, y -> y.replace(a, b, c), x);
        never("start " + of, y -> y.start(a, c < 0, b, c, c), x);
        for (int d : NUMBERS) {
            never("same, splice " + of + ", " + d, y -> {
                y.same(a, b, c, d);
                y.splice(a, b, c, d);
            }, x);
        }
    }
}
