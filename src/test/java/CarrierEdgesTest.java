/** The edges of what the carrier makes, is given and can work out. */
public final class CarrierEdgesTest {
    private static final int BAD = SealedTalks.BAD;
    private static final int[] KEYS = {1, 2, 9, 10};
    private static final Check CHECK = new Check();

    public static void main(String[] args) {
        for (int keys = 0; keys < 16; keys++) {
            carrierOfPattern0(keys, false);
            carrierOfPattern0(keys, true);
            carrierOfPattern1(keys, false);
            carrierOfPattern1(keys, true);
        }
        otherKeys();
        notDoneIsNotOpen();
        halfDoneIsNotOpen();
        giveStatic();
        giveEphemeral();
        giveTwice();
        replaceEachPart();
        replaceValues();
        spliceEachPart();
        spliceOfItself();
        partsOfEach();
        seesKinds();
        shownOfEach();
        shownOpenedKey();
        sameKinds();
        sameNums();
        sameSeals();
        CHECK.end();
    }

    private static void giveThem(Talks x, int keys) {
        for (int i = 0; i < KEYS.length; i++) {
            if ((keys >> i & 1) != 0) {
                x.give(KEYS[i]);
            }
        }
    }

    /** Whether one of these two of KEYS is among the keys given away. */
    private static boolean oneOf(int keys, int one, int other) {
        return (keys >> one & 1) != 0 || (keys >> other & 1) != 0;
    }

    private static void part(Talks x, int message, int part, boolean opened, int inside) {
        x.due(x.sees(message, part), opened ? 3 : 4);
        x.due(x.shown(message, part), opened ? inside : 0);
    }

    private static void transport(Talks x, int first, boolean opened) {
        part(x, first, 1, opened, 7);
        part(x, first + 1, 1, opened, 8);
        x.due(x.open(0), opened);
        x.due(x.open(1), opened);
    }

    /** The static keys are given before the talk, or all of them behind it. */
    private static Talks talkAndGive(int pattern, int keys, boolean early) {
        Talks x = new Talks(CHECK);
        if (early) {
            giveThem(x, keys & 3);
        }
        Scenes.agree(x, pattern);
        x.send(0, 7);
        if (early) {
            giveThem(x, keys & 12);
            x.send(1, 8);
        } else {
            x.send(1, 8);
            giveThem(x, keys);
        }
        return x;
    }

    private static void carrierOfPattern0(int keys, boolean early) {
        CHECK.about("It can work out a DH when it has one of its two private keys; pattern 0, keys " + keys);
        Talks x = talkAndGive(0, keys, early);
        boolean ee = oneOf(keys, 2, 3);
        boolean es = ee && oneOf(keys, 2, 1);
        boolean se = es && oneOf(keys, 0, 3);
        x.due(x.sees(0, 0), 2);
        x.due(x.sees(0, 1), 1);
        x.due(x.sees(1, 0), 2);
        part(x, 1, 1, ee, 2);
        part(x, 1, 2, es, 101);
        part(x, 2, 0, es, 1);
        part(x, 2, 1, se, 102);
        transport(x, 3, se);
    }

    private static void carrierOfPattern1(int keys, boolean early) {
        CHECK.about("It can work out a DH when it has one of its two private keys; pattern 1, keys " + keys);
        Talks x = talkAndGive(1, keys, early);
        boolean es = oneOf(keys, 2, 1);
        boolean ss = es && oneOf(keys, 0, 1);
        boolean ee = ss && oneOf(keys, 2, 3);
        boolean se = ee && oneOf(keys, 0, 3);
        x.due(x.sees(0, 0), 2);
        part(x, 0, 1, es, 1);
        part(x, 0, 2, ss, 100);
        x.due(x.sees(1, 0), 2);
        part(x, 1, 1, se, 101);
        transport(x, 2, se);
    }

    private static void otherKeys() {
        CHECK.about("keys of other ends open nothing");
        for (int pattern = 0; pattern <= 1; pattern++) {
            Talks x = Scenes.agreed(CHECK, pattern);
            int message = x.send(0, 7);
            x.start(0, true, 3, 0, 7);
            x.write(2, 0);
            x.due(x.give(11), true);
            for (int key = 3; key <= 8; key++) {
                x.due(x.give(key), true);
            }
            x.due(x.open(0), false);
            x.due(x.sees(message, 1), 4);
            x.due(x.sees(1, 1), 4);
        }
    }

    private static void notDoneIsNotOpen() {
        CHECK.about("the keys of a session that is done (or closed behind that); false otherwise");
        for (int pattern = 0; pattern <= 1; pattern++) {
            for (int steps = 0; steps <= Scenes.lengthOf(pattern); steps++) {
                Talks x = new Talks(CHECK);
                Scenes.talk(x, pattern, steps);
                giveThem(x, 15);
                boolean done = steps == Scenes.lengthOf(pattern);
                x.due(x.open(0), done);
                x.due(x.open(1), done);
                Scenes.ticks(x, 6);
                x.due(x.open(0), done);
                Scenes.ticks(x, 24);
                x.due(x.open(0), done);
                x.due(x.open(1), done);
            }
        }
    }

    private static void halfDoneIsNotOpen() {
        CHECK.about("done is each session by itself");
        Talks x = new Talks(CHECK);
        Scenes.talk(x, 0, 2);
        x.write(0, 1);
        giveThem(x, 15);
        x.due(x.open(0), true);
        x.due(x.open(1), false);
        x.deliver(2, 1);
        x.due(x.open(1), true);
        x.due(x.open(2), false);
        x.due(x.open(-1), false);
    }

    private static void giveStatic() {
        CHECK.about("false when it is not 1 .. 8 and no ephemeral key that was made");
        Talks x = new Talks(CHECK);
        int[] none = {0, 9, 10, -1, -8, 20, 21, 32, 33, Integer.MIN_VALUE, Integer.MAX_VALUE};
        for (int key : none) {
            x.due(x.give(key), false);
        }
        x.due(x.give(1), true);
        x.due(x.give(8), true);
        for (int key = 2; key <= 7; key++) {
            x.due(x.give(key), true);
        }
    }

    private static void giveEphemeral() {
        CHECK.about("an ephemeral key that was made");
        Talks x = new Talks(CHECK);
        Scenes.start(x, 0);
        x.due(x.give(9), false);
        x.write(0, 1);
        x.due(x.give(10), false);
        x.due(x.give(9), true);
        x.deliver(0, 1);
        x.due(x.give(10), false);
        x.write(1, 1);
        x.due(x.give(11), false);
        x.due(x.give(10), true);
        x.deliver(1, 0);
        x.write(0, 1);
        x.deliver(2, 1);
        x.due(x.give(11), false);
    }

    private static void giveTwice() {
        CHECK.about("false when it was");
        Talks x = Scenes.agreed(CHECK, 0);
        int[] keys = {1, 8, 9, 10};
        for (int key : keys) {
            x.due(x.give(key), true);
            x.due(x.give(key), false);
        }
        for (int key : keys) {
            x.due(x.give(key), false);
        }
        x.due(x.open(0), true);
    }

    private static void replaceEachPart() {
        CHECK.about("as message a, but part i is NUM v");
        Talks x = Scenes.agreed(CHECK, 0);
        for (int a = 0; a < 3; a++) {
            int parts = a == 1 ? 3 : 2;
            for (int i = 0; i < parts; i++) {
                int made = x.replace(a, i, 55);
                x.due(x.parts(made), parts);
                for (int j = 0; j < parts; j++) {
                    x.due(x.same(made, j, a, j), i != j);
                }
                x.due(x.shown(made, i), 55);
                x.due(x.sees(made, i), 1);
            }
            CHECK.about("replace: BAD: there is no such message or part");
            x.due(x.replace(a, parts, 55), BAD);
            x.due(x.replace(a, -1, 55), BAD);
        }
        x.due(x.replace(x.made(), 0, 55), BAD);
        x.due(x.replace(x.made() - 1, 0, 55), x.made() - 1);
    }

    private static void replaceValues() {
        CHECK.about("NUM of an int");
        int[] values = {0, 1, -1, 9, Integer.MIN_VALUE, Integer.MAX_VALUE};
        Talks x = Scenes.agreed(CHECK, 0);
        for (int v : values) {
            x.due(x.shown(x.replace(1, 1, v), 1), v);
            x.due(x.sees(x.made() - 1, 1), 1);
        }
    }

    private static void spliceEachPart() {
        CHECK.about("as message a, but part i is part j of message b");
        Talks x = Scenes.agreed(CHECK, 0);
        int[] parts = {2, 3, 2};
        for (int a = 0; a < 3; a++) {
            for (int i = 0; i < parts[a]; i++) {
                for (int j = 0; j < parts[1 - a % 2]; j++) {
                    int made = x.splice(a, i, 1 - a % 2, j);
                    x.due(x.parts(made), parts[a]);
                    x.due(x.same(made, i, 1 - a % 2, j), true);
                    for (int other = 0; other < parts[a]; other++) {
                        x.due(x.same(made, other, a, other), other != i);
                    }
                }
            }
        }
        CHECK.about("splice: BAD: there is no such message or part");
        x.due(x.splice(0, 2, 1, 2), BAD);
        x.due(x.splice(1, 2, 0, 2), BAD);
        x.due(x.splice(1, 3, 0, 1), BAD);
        x.due(x.splice(0, 1, 1, 3), BAD);
        x.due(x.splice(x.made(), 0, 0, 0), BAD);
        x.due(x.splice(0, 0, x.made(), 0), BAD);
        x.due(x.splice(x.made() - 1, 0, x.made() - 1, 1), x.made() - 1);
    }

    private static void spliceOfItself() {
        CHECK.about("splice: a and b may be the same, and one that the carrier made");
        Talks x = Scenes.agreed(CHECK, 0);
        int swapped = x.splice(x.splice(1, 1, 1, 2), 2, 1, 1);
        x.due(x.same(swapped, 1, 1, 2), true);
        x.due(x.same(swapped, 2, 1, 1), true);
        int copy = x.splice(1, 0, 1, 0);
        for (int part = 0; part < 3; part++) {
            x.due(x.same(copy, part, 1, part), true);
        }
    }

    private static void partsOfEach() {
        CHECK.about("How many parts a message has; BAD: there is none");
        Talks x = new Talks(CHECK);
        x.due(x.parts(0), BAD);
        Scenes.agree(x, 1);
        x.due(x.parts(-1), BAD);
        x.due(x.parts(0), 3);
        x.due(x.parts(1), 2);
        x.due(x.parts(2), BAD);
        x.due(x.parts(Integer.MIN_VALUE), BAD);
        x.due(x.parts(Integer.MAX_VALUE), BAD);
        x.due(x.parts(x.send(0, 0)), 2);
    }

    private static void seesKinds() {
        CHECK.about("1 it is a NUM; 2 a PUB; 3 a SEAL whose key it can work out; 4 another SEAL. BAD: there is no such part");
        Talks x = Scenes.agreed(CHECK, 0);
        x.give(10);
        int[][] want = {{2, 1, BAD}, {2, 3, 4, BAD}, {4, 4, BAD}};
        for (int m = 0; m < 3; m++) {
            x.due(x.sees(m, -1), BAD);
            for (int part = 0; part < want[m].length; part++) {
                x.due(x.sees(m, part), want[m][part]);
            }
            x.due(x.sees(m, Integer.MAX_VALUE), BAD);
            x.due(x.sees(m, Integer.MIN_VALUE), BAD);
        }
        x.due(x.sees(3, 0), BAD);
        x.due(x.sees(-1, 0), BAD);
        x.due(x.sees(-1, 3), BAD);
    }

    private static void shownOfEach() {
        CHECK.about("the int of a NUM, the key of a PUB; 0 for others and when there is no such part");
        Talks x = Scenes.agreed(CHECK, 0);
        x.due(x.shown(0, 0), 9);
        x.due(x.shown(0, 1), 100);
        x.due(x.shown(0, 2), 0);
        x.due(x.shown(0, -1), 0);
        x.due(x.shown(1, 0), 10);
        x.due(x.shown(1, 1), 0);
        x.due(x.shown(1, 2), 0);
        x.due(x.shown(1, 3), 0);
        x.due(x.shown(2, 0), 0);
        x.due(x.shown(2, 2), 0);
        x.due(x.shown(3, 0), 0);
        x.due(x.shown(-1, 0), 0);
        x.due(x.shown(-1, 3), 0);
        x.due(x.shown(Integer.MAX_VALUE, 0), 0);
        x.due(x.shown(0, Integer.MIN_VALUE), 0);
    }

    private static void shownOpenedKey() {
        CHECK.about("the same of what is inside a SEAL whose key the carrier can work out");
        for (int own = 1; own <= 8; own++) {
            Talks x = new Talks(CHECK);
            x.start(1, true, own, 2, 0);
            x.write(0, Integer.MIN_VALUE);
            x.due(x.shown(0, 1), 0);
            x.give(9);
            x.due(x.shown(0, 1), own);
            x.give(own);
            x.due(x.shown(0, 2), Integer.MIN_VALUE);
        }
    }

    private static void sameKinds() {
        CHECK.about("two are the same only if they are made alike of the same: kinds");
        Talks x = Scenes.agreed(CHECK, 0);
        int nine = x.replace(0, 1, 9);
        x.due(x.same(nine, 0, nine, 1), false);
        x.due(x.same(nine, 0, 0, 0), true);
        x.due(x.same(nine, 1, 0, 1), false);
        x.due(x.same(0, 0, 1, 0), false);
        x.due(x.same(0, 1, 1, 1), false);
        CHECK.about("same: false when one of them is none");
        x.due(x.same(0, 2, 0, 2), false);
        x.due(x.same(0, 2, 1, 2), false);
        x.due(x.same(1, 2, 0, 2), false);
        x.due(x.same(0, -1, 0, -1), false);
        x.due(x.same(0, 0, 0, -1), false);
        x.due(x.same(0, -1, 0, 0), false);
        x.due(x.same(4, 0, 4, 0), false);
        x.due(x.same(4, 0, 0, 0), false);
        x.due(x.same(0, 0, 4, 0), false);
        x.due(x.same(-1, 0, -1, 0), false);
        x.due(x.same(-1, 3, 0, 0), false);
        x.due(x.same(0, 0, -1, 3), false);
        x.due(x.same(Integer.MAX_VALUE, 0, Integer.MIN_VALUE, 0), false);
    }

    private static void sameNums() {
        CHECK.about("two are the same only if they are made alike of the same: NUM");
        Talks x = Scenes.agreed(CHECK, 0);
        int[] values = {0, 1, -1, 128, 128 + (1 << 7), 1 << 16, Integer.MIN_VALUE, Integer.MAX_VALUE};
        for (int v : values) {
            x.replace(0, 1, v);
        }
        for (int v : values) {
            x.replace(1, 2, v);
        }
        for (int i = 0; i < values.length; i++) {
            for (int j = 0; j < values.length; j++) {
                x.due(x.same(3 + i, 1, 3 + values.length + j, 2), i == j);
            }
        }
    }

    private static void sameSeals() {
        CHECK.about("two are the same only if they are made alike of the same: SEAL");
        Talks x = Scenes.agreed(CHECK, 1);
        int first = x.send(0, 5);
        int otherKey = x.send(1, 5);
        int otherCounter = x.send(0, 5);
        x.due(x.same(first, 1, first, 1), true);
        x.due(x.same(first, 1, otherKey, 1), false);
        x.due(x.same(first, 1, otherCounter, 1), false);
        x.due(x.same(first, 1, x.splice(otherKey, 1, first, 1), 1), true);
        x.due(x.same(0, 1, 0, 2), false);
        for (int key = 1; key <= 10; key++) {
            x.give(key);
        }
        x.due(x.shown(first, 1), 5);
        x.due(x.shown(otherCounter, 1), 5);
        x.due(x.same(first, 1, otherCounter, 1), false);
        x.due(x.same(first, 1, x.replace(0, 0, 5), 0), false);
    }
}
