/** The edges of what done sessions send and accept. */
public final class TransportEdgesTest {
    private static final Check CHECK = new Check();

    public static void main(String[] args) {
        for (int pattern = 0; pattern <= 1; pattern++) {
            for (int sender = 0; sender <= 1; sender++) {
                counters(pattern, sender);
                keysOfBothDirections(pattern, sender);
                window(pattern, sender);
            }
        }
        payloads();
        twoParts();
        firstPart();
        secondPart();
        sealOfAnotherCounter();
        messagesOfThePattern();
        topAtFirst();
        topIsTheGreatest();
        refusedDoesNotMoveTop();
        topOfEachSession();
        noCounterTwice();
        greatestCounter();
        anotherTalk();
        CHECK.end();
    }

    /** Sessions 0 and 1 have agreed by pattern 1; message 2 + c is the one with the counter c. */
    private static Talks sent(int sender, int count) {
        Talks x = Scenes.agreed(CHECK, 1);
        for (int c = 0; c < count; c++) {
            x.send(sender, 200 + c);
        }
        return x;
    }

    private static void counters(int pattern, int sender) {
        CHECK.about("NUM of a counter (0, 1, 2, .. in the order of sending); pattern " + pattern);
        Talks x = Scenes.agreed(CHECK, pattern);
        int first = Scenes.lengthOf(pattern);
        for (int c = 0; c < 5; c++) {
            x.due(x.send(sender, 7), first + c);
            x.due(x.parts(first + c), 2);
            x.due(x.sees(first + c, 0), 1);
            x.due(x.shown(first + c, 0), c);
            x.due(x.sees(first + c, 1), 4);
        }
        x.due(x.shown(x.send(1 - sender, 7), 0), 0);
        x.due(x.shown(x.send(sender, 7), 0), 5);
        x.due(x.shown(x.send(1 - sender, 7), 0), 1);
    }

    private static void keysOfBothDirections(int pattern, int sender) {
        CHECK.about("the initiator sends with HALF of ck and 1, and receives with HALF of ck and 2; pattern " + pattern);
        Talks x = Scenes.agreed(CHECK, pattern);
        int message = x.send(sender, 7);
        int back = x.send(1 - sender, 7);
        x.due(x.same(message, 1, back, 1), false);
        x.due(x.same(message, 0, back, 0), true);
        x.due(x.deliver(message, sender), 0);
        x.due(x.deliver(back, 1 - sender), 0);
        x.due(x.deliver(message, 1 - sender), 1);
        x.due(x.deliver(back, sender), 1);
    }

    /** For each TOP, each counter up to one above it. */
    private static void window(int pattern, int sender) {
        CHECK.about("c is above TOP - 8; pattern " + pattern + ", sender " + sender);
        for (int top = 0; top < 20; top++) {
            for (int c = 0; c <= top + 1; c++) {
                Talks x = Scenes.agreed(CHECK, pattern);
                int first = x.made();
                for (int i = 0; i <= top + 1; i++) {
                    x.send(sender, 200 + i);
                }
                int read = pattern == 0 && sender == 0 ? 2 : 1;
                x.due(x.deliver(first + top, 1 - sender), 1);
                boolean taken = c > top - 8 && c != top;
                x.due(x.deliver(first + c, 1 - sender), taken ? 1 : 0);
                x.due(x.accepted(1 - sender), taken ? read + 2 : read + 1);
                x.due(x.payload(1 - sender), 200 + (taken ? c : top));
            }
        }
    }

    private static void payloads() {
        CHECK.about("SEAL of the sending key, that counter, NUM 0, and NUM of the payload");
        int[] payloads = {0, 1, -1, Integer.MIN_VALUE, Integer.MAX_VALUE};
        Talks x = Scenes.agreed(CHECK, 1);
        for (int i = 0; i < payloads.length; i++) {
            x.due(x.deliver(x.send(0, payloads[i]), 1), 1);
            x.due(x.payload(1), payloads[i]);
            x.due(x.accepted(1), 2 + i);
        }
    }

    private static void twoParts() {
        CHECK.about("It is ACCEPTED when it has two parts");
        Talks x = sent(0, 1);
        int longer = x.splice(x.splice(0, 0, 2, 0), 1, 2, 1);
        x.due(x.parts(longer), 3);
        x.due(x.deliver(longer, 1), 0);
        x.due(x.deliver(x.replace(longer, 2, 200), 1), 0);
        x.due(x.deliver(x.splice(x.splice(0, 1, 2, 0), 2, 2, 1), 1), 0);
        x.due(x.accepted(1), 1);
        x.due(x.deliver(2, 1), 1);
    }

    private static void firstPart() {
        CHECK.about("the first one is NUM of a counter c from 0 on");
        Talks x = sent(0, 2);
        int[] wrong = {-1, 1, 2, 58, 59, 60, 256, Integer.MIN_VALUE, Integer.MAX_VALUE};
        for (int c : wrong) {
            x.due(x.deliver(x.replace(2, 0, c), 1), 0);
        }
        x.due(x.deliver(x.splice(2, 0, 0, 0), 1), 0);
        x.due(x.deliver(x.splice(2, 0, 2, 1), 1), 0);
        x.due(x.deliver(x.splice(2, 0, 3, 0), 1), 0);
        x.due(x.accepted(1), 1);
        x.due(x.payload(1), 100);
        x.due(x.deliver(x.replace(2, 0, 0), 1), 1);
        x.due(x.payload(1), 200);
        x.due(x.deliver(x.replace(3, 0, 0), 1), 0);
        x.due(x.deliver(x.replace(3, 0, 1), 1), 1);
        x.due(x.payload(1), 201);
    }

    private static void secondPart() {
        CHECK.about("the second one a SEAL of the receiving key, c, NUM 0, and a NUM");
        Talks x = sent(0, 1);
        x.send(1, 200);
        x.due(x.deliver(x.replace(2, 1, 200), 1), 0);
        x.due(x.deliver(x.replace(2, 1, 0), 1), 0);
        x.due(x.deliver(x.splice(2, 1, 0, 0), 1), 0);
        x.due(x.deliver(x.splice(2, 1, 2, 0), 1), 0);
        x.due(x.deliver(x.splice(2, 1, 0, 1), 1), 0);
        x.due(x.deliver(x.splice(2, 1, 0, 2), 1), 0);
        x.due(x.deliver(x.splice(2, 1, 1, 1), 1), 0);
        x.due(x.deliver(x.splice(2, 1, 3, 1), 1), 0);
        x.due(x.accepted(1), 1);
        x.due(x.deliver(x.splice(3, 1, 2, 1), 1), 1);
        x.due(x.payload(1), 200);
    }

    private static void sealOfAnotherCounter() {
        CHECK.about("a SEAL of the receiving key, c: of no other counter");
        Talks x = sent(0, 3);
        for (int c = 0; c < 3; c++) {
            for (int other = 0; other < 3; other++) {
                if (c != other) {
                    x.due(x.deliver(x.splice(2 + c, 1, 2 + other, 1), 1), 0);
                }
            }
        }
        for (int c = 0; c < 3; c++) {
            x.due(x.deliver(2 + c, 1), 1);
        }
    }

    private static void messagesOfThePattern() {
        CHECK.about("when done, looks whether it accepts it");
        for (int pattern = 0; pattern <= 1; pattern++) {
            Talks x = Scenes.agreed(CHECK, pattern);
            x.start(pattern, true, 1, 2, 7);
            x.write(2, 5);
            for (int m = 0; m < x.made(); m++) {
                x.due(x.deliver(m, 0), 0);
                x.due(x.deliver(m, 1), 0);
            }
            x.due(x.steps(0), Scenes.lengthOf(pattern));
            x.due(x.steps(1), Scenes.lengthOf(pattern));
            x.due(x.accepted(0), 1);
            x.due(x.accepted(1), pattern == 0 ? 2 : 1);
        }
    }

    private static void topAtFirst() {
        CHECK.about("TOP being the greatest counter accepted (-1 at first)");
        for (int first = 0; first < 12; first++) {
            Talks x = sent(1, 12);
            x.due(x.deliver(2 + first, 0), 1);
            x.due(x.payload(0), 200 + first);
        }
        Talks x = sent(0, 20);
        for (int c = 0; c < 20; c++) {
            x.due(x.deliver(2 + c, 1), 1);
        }
        x.due(x.accepted(1), 21);
    }

    private static void topIsTheGreatest() {
        CHECK.about("TOP being the greatest counter accepted, not the latest");
        Talks x = sent(0, 20);
        x.due(x.deliver(2 + 10, 1), 1);
        x.due(x.deliver(2 + 5, 1), 1);
        x.due(x.deliver(2 + 2, 1), 0);
        x.due(x.deliver(2 + 3, 1), 1);
        x.due(x.deliver(2 + 2, 1), 0);
        x.due(x.deliver(2 + 11, 1), 1);
        x.due(x.deliver(2 + 3, 1), 0);
        x.due(x.deliver(2 + 4, 1), 1);
        x.due(x.deliver(2 + 19, 1), 1);
        x.due(x.deliver(2 + 9, 1), 0);
        x.due(x.deliver(2 + 11, 1), 0);
        x.due(x.deliver(2 + 12, 1), 1);
    }

    private static void refusedDoesNotMoveTop() {
        CHECK.about("0 if not (nothing changes then): TOP stays");
        Talks x = sent(0, 20);
        x.due(x.deliver(x.replace(2 + 19, 1, 5), 1), 0);
        x.due(x.deliver(x.replace(2, 0, 19), 1), 0);
        x.due(x.deliver(x.splice(2 + 19, 1, 2 + 18, 1), 1), 0);
        x.due(x.deliver(2, 1), 1);
        x.due(x.deliver(2 + 8, 1), 1);
        x.due(x.deliver(x.replace(2, 0, 19), 1), 0);
        x.due(x.deliver(2 + 1, 1), 1);
        x.due(x.deliver(x.replace(2 + 2, 0, 3), 1), 0);
        x.due(x.deliver(2 + 3, 1), 1);
        x.due(x.deliver(2 + 2, 1), 1);
        x.due(x.deliver(2 + 19, 1), 1);
    }

    private static void topOfEachSession() {
        CHECK.about("TOP is a session's own");
        Talks x = Scenes.agreed(CHECK, 1);
        for (int c = 0; c < 10; c++) {
            x.send(0, 300 + c);
            x.send(1, 400 + c);
        }
        x.due(x.deliver(2 + 18, 1), 1);
        x.due(x.deliver(2 + 1, 0), 1);
        x.due(x.deliver(2, 1), 0);
        x.due(x.deliver(2 + 19, 0), 1);
        x.due(x.deliver(2 + 3, 0), 0);
        x.due(x.deliver(2 + 5, 0), 1);
        x.due(x.payload(0), 402);
        x.due(x.payload(1), 309);
    }

    private static void noCounterTwice() {
        CHECK.about("no message with the counter c was accepted before");
        Talks x = sent(0, 8);
        for (int c = 7; c >= 0; c--) {
            x.due(x.deliver(2 + c, 1), 1);
            x.due(x.deliver(2 + c, 1), 0);
        }
        for (int c = 0; c < 8; c++) {
            x.due(x.deliver(2 + c, 1), 0);
            x.due(x.deliver(x.splice(2 + c, 0, 2 + c, 0), 1), 0);
        }
        x.due(x.accepted(1), 9);
        x.due(x.payload(1), 200);
        x.due(x.deliver(x.send(0, 5), 1), 1);
    }

    private static void greatestCounter() {
        CHECK.about("the greatest counter that 60 messages leave");
        Talks x = sent(0, 58);
        x.due(x.shown(59, 0), 57);
        x.due(x.deliver(59, 1), 1);
        x.due(x.payload(1), 257);
        x.due(x.deliver(59, 1), 0);
        x.due(x.deliver(2 + 49, 1), 0);
        x.due(x.deliver(2 + 50, 1), 1);
        x.due(x.deliver(2, 1), 0);
    }

    private static void anotherTalk() {
        CHECK.about("SEAL of the receiving key: of no other talk");
        Talks x = Scenes.agreed(CHECK, 1);
        x.start(1, true, 1, 2, 7);
        x.start(1, false, 2, 0, 7);
        x.deliver(x.write(2, 100), 3);
        x.deliver(x.write(3, 101), 2);
        int one = x.send(0, 5);
        int other = x.send(2, 5);
        x.due(x.same(one, 0, other, 0), true);
        x.due(x.same(one, 1, other, 1), false);
        x.due(x.deliver(one, 3), 0);
        x.due(x.deliver(other, 1), 0);
        x.due(x.deliver(one, 1), 1);
        x.due(x.deliver(other, 3), 1);
    }
}
