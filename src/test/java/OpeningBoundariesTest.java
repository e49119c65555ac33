import java.util.Arrays;

/** The boundary cases that promises 11 to 14 name, each in a case of its own. */
public final class OpeningBoundariesTest {
    private static final Cases CASES = new Cases();
    private static final int MIN = Cases.MIN;
    private static final int MAX = Cases.MAX;
    private static final int NONE = PacketGuard.NONE;

    public static void main(String[] args) {
        take("Promise 11: take");
        takeOfParts("Promise 11: take");
        takeOfFaults("Promise 11: take");
        takeOfLongest("Promise 11: take");
        got("Promise 12: got");
        gotRefused("Promise 12: got");
        number("Promise 13: number");
        begin("Promise 14: begin");
        beginAnew("Promise 14: begin");
        CASES.end("OpeningBoundariesTest");
    }

    private static void take(String promise) {
        int[] sizes = {0, 1, 7, 8, 255, 256, 499, 500};
        for (int size : sizes) {
            CASES.at(promise, "how many bytes its payload has: " + size, t -> {
                t.fill(size);
                t.send(0);
                t.due("take()", Cases.pass(t), size);
                t.due("take() of nothing", t.take(), NONE);
            });
        }
        CASES.at(promise, "The next packet is opened: one each", t -> {
            for (int i = 0; i < 4; i++) {
                t.put(i, 1 + i % 2);
                t.send(0);
            }
            t.link(MAX);
            for (int i = 0; i < 4; i++) {
                t.due("number(1)", t.number(1), i);
                t.due("take()", t.take(), 1 + i % 2);
                t.due("the last byte", t.got(i % 2), i);
            }
            t.due("take() of nothing", t.take(), NONE);
        });
    }

    private static void takeOfParts(String promise) {
        CASES.at(promise, "NONE when it is not all there: nothing came", t -> {
            t.due("NONE", NONE, -1);
            t.due("take(), new", t.take(), NONE);
            t.send(0);
            t.due("take(), on the way", t.take(), NONE);
            t.due("number(1)", t.number(1), 0);
        });
        // To each side of the sixteen bytes, of the packet's end and of its seal's.
        int[] parts = {1, 15, 16, 17, 31, 32, 33, 63};
        for (int part : parts) {
            CASES.at(promise, "NONE when it is not all there: " + part + " of 64", t -> {
                t.fill(8);
                t.send(0);
                t.link(part);
                t.due("take()", t.take(), NONE);
                t.due("take(), again", t.take(), NONE);
                t.due("number(1)", t.number(1), 0);
                t.due("got(0)", t.got(0), Twin.INDEX);
                t.link(64 - part);
                t.due("take() of all", t.take(), 8);
                t.due("number(1)", t.number(1), 1);
            });
        }
        CASES.at(promise, "NONE when it is not all there: 64 of 64", t -> {
            t.fill(8);
            t.send(0);
            t.link(64);
            t.due("take()", t.take(), 8);
        });
        CASES.at(promise, "NONE when it is not all there: a part behind a whole one", t -> {
            t.put(1, 1);
            t.send(0);
            t.put(2, 2);
            t.send(0);
            t.link(95);
            t.due("take() of the first", t.take(), 1);
            t.due("take() of the part", t.take(), NONE);
            t.due("got(0) of the first", t.got(0), 1);
            t.link(1);
            t.due("take() of the second", t.take(), 2);
        });
    }

    private static void takeOfFaults(String promise) {
        int[][] faults = {{0, 4, -2}, {12, 3, -4}};
        for (int[] fault : faults) {
            CASES.at(promise, "minus the FAULT (again and again): " + fault[2], t -> {
                t.forge(fault[0], fault[1]);
                t.due("take()", Cases.pass(t), fault[2]);
                againAndAgain(t, fault[2]);
            });
        }
        CASES.at(promise, "minus the FAULT (again and again): -3", t -> {
            t.send(0);
            t.alter(47, 1);
            t.due("take()", Cases.pass(t), -3);
            againAndAgain(t, -3);
        });
        CASES.at(promise, "minus the FAULT: the first one, whatever comes behind it", t -> {
            t.forge(12, 12);
            t.forge(13, 4);
            t.send(0);
            t.due("take()", Cases.pass(t), -4);
            t.due("take(), again", t.take(), -4);
        });
        CASES.at(promise, "minus the FAULT: only when its packet is the next one", t -> {
            t.put(1, 1);
            t.send(0);
            t.forge(13, 4);
            t.due("take() of the good one", Cases.pass(t), 1);
            t.due("take()", t.take(), -2);
            t.due("number(1)", t.number(1), 1);
        });
    }

    private static void againAndAgain(Twin t, int fault) {
        t.due("take(), again", t.take(), fault);
        t.send(0);
        t.due("take(), one is on the way", t.take(), fault);
        t.due("link(48)", t.link(48), 48);
        t.due("take(), one came", t.take(), fault);
        t.turn(1);
        t.due("take(), turned", t.take(), fault);
        t.due("number(1)", t.number(1), 0);
        t.due("got(0)", t.got(0), Twin.INDEX);
        t.begin();
        t.due("take(), begun", t.take(), NONE);
        t.send(0);
        t.due("take() of a packet", Cases.pass(t), 0);
    }

    /** Only by forging and altering does a packet come to the longest length, 540. */
    private static void takeOfLongest(String promise) {
        int[] paddings = {4, 255};
        for (int padding : paddings) {
            CASES.at(promise, "how many bytes its payload has: of length 540, padding " + padding,
                    t -> {
                byte[] plain = longest(padding);
                t.forge(540, padding);
                for (int i = 0; i < 11; i++) {
                    t.send(0);
                }
                byte[] want = Model.packetOfZeroKeys(plain);
                byte[] have = t.model.way();
                for (int i = 576 - 32; i < 576; i++) {
                    t.alter(i, have[i] ^ want[i]);
                }
                t.link(575);
                t.due("take() of 575", t.take(), NONE);
                t.link(1);
                int due = 539 - padding;
                t.due("take() of 576", t.take(), due);
                t.due("got(0)", t.got(0), plain[5] & 255);
                t.due("the last", t.got(due - 1), plain[4 + due] & 255);
                t.due("the one behind it", t.got(due), Twin.INDEX);
            });
        }
    }

    /** What the receiver deciphers of a packet of length 540 and the eleven others behind it. */
    private static byte[] longest(int padding) {
        Model sent = new Model();
        sent.forge(540, padding);
        for (int i = 0; i < 11; i++) {
            sent.send(0);
        }
        return Model.streamOfZeroKeys(Arrays.copyOf(sent.way(), 544));
    }

    private static void got(String promise) {
        CASES.at(promise, "Byte i of the payload that was opened latest: first and last", t -> {
            t.put(0x80, 1);
            t.fill(498);
            t.put(0xff, 1);
            t.send(0);
            t.due("take()", Cases.pass(t), 500);
            t.due("got(0)", t.got(0), 0x80);
            t.due("got(499)", t.got(499), 0xff);
            t.due("got(500)", t.got(500), Twin.INDEX);
        });
        CASES.at(promise, "opened latest: a shorter one behind a longer one", t -> {
            t.put(0x01020304, 4);
            t.send(0);
            t.put(0x0506, 2);
            t.send(0);
            t.link(MAX);
            t.take();
            t.due("got(3)", t.got(3), 4);
            t.due("got(4)", t.got(4), Twin.INDEX);
            t.take();
            t.due("got(0)", t.got(0), 5);
            t.due("got(1)", t.got(1), 6);
            t.due("got(2)", t.got(2), Twin.INDEX);
        });
        CASES.at(promise, "opened latest: an empty one behind another", t -> {
            t.put(1, 1);
            t.send(0);
            t.send(0);
            t.link(MAX);
            t.due("take()", t.take(), 1);
            t.due("got(0)", t.got(0), 1);
            t.due("take()", t.take(), 0);
            t.due("got(0)", t.got(0), Twin.INDEX);
        });
        CASES.at(promise, "opened latest: not one that is not all there", t -> {
            t.put(1, 1);
            t.send(0);
            t.put(2, 2);
            t.send(0);
            t.link(95);
            t.due("take()", t.take(), 1);
            t.due("take()", t.take(), NONE);
            t.due("got(0)", t.got(0), 1);
            t.due("got(1)", t.got(1), Twin.INDEX);
        });
        int[][] faults = {{13, 4, -2}, {12, 0, -4}};
        for (int[] fault : faults) {
            CASES.at(promise, "opened latest: not one with a fault, " + fault[2], t -> {
                t.put(1, 1);
                t.send(0);
                t.put(2, 2);
                t.forge(fault[0], fault[1]);
                t.link(MAX);
                t.due("take()", t.take(), 1);
                t.due("take()", t.take(), fault[2]);
                t.due("got(0)", t.got(0), 1);
                t.due("got(1)", t.got(1), Twin.INDEX);
            });
        }
        CASES.at(promise, "opened latest: not one with a fault, -3", t -> {
            t.put(1, 1);
            t.send(0);
            t.put(2, 2);
            t.send(0);
            t.alter(95, 128);
            t.link(MAX);
            t.due("take()", t.take(), 1);
            t.due("take()", t.take(), -3);
            t.due("got(0)", t.got(0), 1);
            t.due("got(1)", t.got(1), Twin.INDEX);
        });
    }

    private static void gotRefused(String promise) {
        int[] wrong = {-1, 5, 6, MIN, MAX};
        for (int i : wrong) {
            CASES.at(promise, "IndexOutOfBoundsException when there is none such: " + i, t -> {
                t.fill(5);
                t.send(0);
                t.due("take()", Cases.pass(t), 5);
                t.due("got", t.got(i), Twin.INDEX);
                t.glance();
            });
        }
        int[] none = {-1, 0, 1, MIN, MAX};
        for (int i : none) {
            CASES.at(promise, "IndexOutOfBoundsException when there is none such: no byte, " + i,
                    t -> {
                t.due("got, new", t.got(i), Twin.INDEX);
                t.put(1, 4);
                t.due("got, being made", t.got(i), Twin.INDEX);
                t.send(0);
                t.due("got, on the way", t.got(i), Twin.INDEX);
                t.link(48);
                t.due("got, not opened", t.got(i), Twin.INDEX);
                t.due("take()", t.take(), 4);
                t.due("got(0)", t.got(0), 0);
                t.begin();
                t.due("got, begun", t.got(i), Twin.INDEX);
            });
        }
    }

    private static void number(String promise) {
        CASES.at(promise, "A side's next number: 0 the sender's", t -> {
            t.due("number(0), new", t.number(0), 0);
            t.put(1, 1);
            t.due("number(0), being made", t.number(0), 0);
            t.send(0);
            t.due("number(0), sent", t.number(0), 1);
            t.forge(13, 0);
            t.due("number(0), forged", t.number(0), 2);
            t.due("number(1)", t.number(1), 0);
        });
        CASES.at(promise, "A side's next number: 1 the receiver's", t -> {
            t.send(0);
            t.send(0);
            t.link(95);
            t.due("number(1), came", t.number(1), 0);
            t.take();
            t.due("number(1), opened", t.number(1), 1);
            t.take();
            t.due("number(1), not all there", t.number(1), 1);
            t.due("take()", Cases.pass(t), 0);
            t.due("number(1), opened", t.number(1), 2);
            t.due("number(0)", t.number(0), 2);
        });
        CASES.at(promise, "A side's next number: not of a packet that was refused", t -> {
            Cases.sendEmpty(t, 125);
            t.due("send", t.send(0), Twin.STATE);
            t.due("forge", t.forge(12, 4), Twin.STATE);
            t.due("number(0)", t.number(0), 125);
        });
        CASES.at(promise, "A side's next number: not of one with a fault", t -> {
            t.send(0);
            t.forge(12, 0);
            t.link(MAX);
            t.take();
            t.due("take()", t.take(), -4);
            t.due("number(1)", t.number(1), 1);
            t.due("number(0)", t.number(0), 2);
        });
        int[] wrong = {-1, 2, MIN, MAX};
        for (int side : wrong) {
            CASES.at(promise, "IndexOutOfBoundsException when there is no such side: " + side,
                    t -> {
                t.send(0);
                t.due("number", t.number(side), Twin.INDEX);
                t.due("number(0)", t.number(0), 1);
                t.due("number(1)", t.number(1), 0);
            });
        }
    }

    private static void begin(String promise) {
        CASES.at(promise, "nothing is on the way", t -> {
            Cases.sendEmpty(t, 125);
            t.begin();
            t.due("onTheWay()", t.onTheWay(), 0);
            t.due("octet(0)", t.octet(0), Twin.INDEX);
            t.due("alter(0, 1)", t.alter(0, 1), Twin.INDEX);
            t.due("link(MAX)", t.link(MAX), 0);
            Cases.sendEmpty(t, 125);
            t.due("send", t.send(0), Twin.STATE);
        });
        int[] parts = {1, 15, 16, 47, 48};
        for (int part : parts) {
            CASES.at(promise, "nothing is on the way or came: " + part + " seen by take", t -> {
                t.send(0);
                t.send(0);
                t.link(part);
                t.take();
                t.begin();
                t.due("take()", t.take(), NONE);
                t.send(0);
                t.due("take() of the first", Cases.pass(t), 0);
            });
            CASES.at(promise, "nothing is on the way or came: " + part + " not seen", t -> {
                t.send(0);
                t.link(part);
                t.begin();
                t.due("take()", t.take(), NONE);
                t.send(0);
                t.due("take() of the first", Cases.pass(t), 0);
            });
        }
        CASES.at(promise, "no payload: none that is being made", t -> {
            t.fill(500);
            t.begin();
            t.due("put(1, 1)", t.put(1, 1), 1);
            t.due("send", t.send(0), 48);
        });
        CASES.at(promise, "no payload: none that was opened", t -> {
            t.fill(3);
            t.send(0);
            t.due("take()", Cases.pass(t), 3);
            t.begin();
            t.due("got(0)", t.got(0), Twin.INDEX);
        });
        CASES.at(promise, "numbers and all keys 0: the numbers", t -> {
            t.send(0);
            t.link(48);
            t.take();
            t.begin();
            t.due("number(0)", t.number(0), 0);
            t.due("number(1)", t.number(1), 0);
            t.send(0);
            Cases.dueOctets(t, 16, "4542104d0baefb8c5971351a6fdd7826");
        });
        beginKeys(promise);
    }

    private static void beginKeys(String promise) {
        CASES.at(promise, "all keys 0: the sides'", t -> {
            t.keys(1);
            t.turn(0);
            t.turn(1);
            t.begin();
            t.send(0);
            Cases.dueBlock(t, 0, Cases.EMPTY_PACKET, "66e94bd4ef8a2c3b884cfa59ca342b2e");
            t.due("take()", Cases.pass(t), 0);
        });
        CASES.at(promise, "all keys 0: the next ones", t -> {
            t.keys(1);
            t.begin();
            t.turn(0);
            t.turn(1);
            t.send(0);
            Cases.dueBlock(t, 0, Cases.EMPTY_PACKET, "66e94bd4ef8a2c3b884cfa59ca342b2e");
            t.due("take()", Cases.pass(t), 0);
        });
        CASES.at(promise, "all keys 0: those that wait for the receiver's packet", t -> {
            t.send(0);
            t.link(16);
            t.take();
            t.keys(1);
            t.turn(1);
            t.begin();
            for (int i = 0; i < 3; i++) {
                t.send(0);
                t.due("take()", Cases.pass(t), 0);
            }
        });
        CASES.at(promise, "all keys 0: the counters", t -> {
            t.send(0);
            t.due("take()", Cases.pass(t), 0);
            t.begin();
            t.send(0);
            Cases.dueBlock(t, 0, Cases.EMPTY_PACKET, "66e94bd4ef8a2c3b884cfa59ca342b2e");
            t.due("take()", Cases.pass(t), 0);
        });
    }

    /** Whatever was before: every later answer is a new object's. */
    private static void beginAnew(String promise) {
        for (Situations.Part situation : Situations.BEFORE) {
            for (Situations.Part later : Situations.LATER) {
                CASES.at(promise, "All begins anew: " + situation.name() + ", " + later.name(),
                        t -> {
                    Twin fresh = CASES.another("a new one beside it");
                    later.calls().accept(fresh);
                    situation.calls().accept(t);
                    t.begin();
                    int begun = t.calls();
                    later.calls().accept(t);
                    CASES.check().holds(
                            situation.name() + ", begun: " + later.name() + " as of a new object",
                            t.toldFrom(begun).equals(fresh.toldFrom(0)));
                });
            }
        }
    }
}
