import java.util.List;
import java.util.function.Consumer;

/**
 * Runs that bring an object to where calls are refused, and runs that make all that it holds seen.
 * One of each, with some calls between them, keeps to 512 calls.
 */
final class Situations {
    record Part(String name, Consumer<Twin> calls) {
    }

    static final List<Part> BEFORE = List.of(
            new Part("a new object", t -> { }),
            new Part("in the midst of all", Situations::midst),
            new Part("keys wait", Situations::keysWait),
            new Part("a full payload", t -> t.fill(500)),
            new Part("a payload of 498", t -> t.fill(498)),
            new Part("a full way", t -> way(t, 0)),
            new Part("5953 bytes on the way", t -> way(t, 47)),
            new Part("a full receiver", t -> receiver(t, 2000)),
            new Part("1999 bytes came", t -> receiver(t, 1999)),
            new Part("dead by fault 2", t -> dead(t, 13, 4, 0)),
            new Part("dead by fault 3", t -> dead(t, 12, 4, 1)),
            new Part("dead by fault 4", t -> dead(t, 12, 3, 0)));

    static final List<Part> LATER = List.of(
            new Part("the sender is seen", Situations::seeSender),
            new Part("the receiver is seen", Situations::seeReceiver),
            new Part("the next keys are seen", Situations::seeNextKeys),
            new Part("the room is seen", Situations::seeRoom));

    private Situations() {
    }

    /** Two packets opened, a third one seen in part, a fourth on the way, a payload begun. */
    private static void midst(Twin t) {
        t.keys(11);
        t.turn(0);
        t.turn(1);
        t.fill(20);
        t.send(0);
        t.fill(3);
        t.send(1);
        t.fill(30);
        t.send(2);
        t.fill(10);
        t.send(3);
        t.link(64 + 48 + 20);
        t.take();
        t.take();
        t.take();
        t.key(9, 77);
        t.put(0x313233, 3);
    }

    /** The sender has turned, and the receiver will behind the packet that it has seen in part. */
    private static void keysWait(Twin t) {
        t.fill(5);
        t.send(0);
        t.keys(21);
        t.turn(0);
        t.fill(6);
        t.send(0);
        t.link(16);
        t.take();
        t.turn(1);
        t.key(0, 5);
        t.key(4, 6);
        t.key(15, 7);
    }

    /** 6000 bytes on the way but for some that came. */
    private static void way(Twin t, int came) {
        Cases.sendEmpty(t, 125);
        t.link(came);
        t.put(0x41, 1);
    }

    private static void receiver(Twin t, int came) {
        t.put(0x4142, 2);
        t.send(0);
        t.link(48);
        t.take();
        Cases.sendEmpty(t, 43);
        t.link(came);
    }

    private static void dead(Twin t, int length, int padding, int mask) {
        t.put(0x515253, 3);
        t.send(0);
        t.forge(length, padding);
        t.alter(95, mask);
        t.send(0);
        t.link(120);
        t.take();
        t.take();
        t.put(0x54, 1);
    }

    private static void seeSender(Twin t) {
        t.glance();
        t.link(64);
        t.put(0x61, 1);
        t.send(5);
        t.glance();
        t.turn(0);
        t.send(6);
        t.glance();
    }

    private static void seeReceiver(Twin t) {
        t.take();
        t.glance();
        t.send(0);
        t.link(1);
        t.take();
        t.link(30);
        t.take();
        t.glance();
        t.link(200);
        for (int i = 0; i < 45; i++) {
            t.take();
            t.number(1);
            t.got(0);
            t.link(50);
        }
    }

    private static void seeNextKeys(Twin t) {
        t.link(100);
        t.turn(0);
        t.turn(1);
        t.put(0x6263, 2);
        t.send(7);
        t.glance();
        t.link(16);
        t.take();
        t.key(3, 1);
        t.turn(1);
        t.link(500);
        for (int i = 0; i < 12; i++) {
            t.take();
            t.got(0);
        }
        t.glance();
    }

    /** How much is there of the payload, on the way and with the receiver. */
    private static void seeRoom(Twin t) {
        t.put(1, 1);
        t.put(1, 4);
        t.put(1, 3);
        for (int i = 0; i < 42; i++) {
            t.send(i);
        }
        for (int n = 1024; n > 0; n /= 2) {
            t.link(n);
        }
        for (int i = 0; i < 90; i++) {
            t.send(i);
        }
        t.onTheWay();
        t.take();
        for (int n = 64; n > 0; n /= 2) {
            t.link(n);
        }
    }
}
