/** The boundary cases that promises 7 to 10 name, each in a case of its own. */
public final class WayBoundariesTest {
    private static final Cases CASES = new Cases();
    private static final int MIN = Cases.MIN;
    private static final int MAX = Cases.MAX;
    private static final int NONE = PacketGuard.NONE;

    public static void main(String[] args) {
        onTheWay("Promise 7: onTheWay");
        octet("Promise 8: octet");
        octetOfFullWay("Promise 8: octet");
        alter("Promise 9: alter");
        alterRefused("Promise 9: alter");
        link("Promise 10: link");
        linkRefused("Promise 10: link");
        linkTooMuch("Promise 10: link");
        linkBehindTake("Promise 10: link");
        CASES.end("WayBoundariesTest");
    }

    private static void onTheWay(String promise) {
        CASES.at(promise, "How many bytes are on the way: none", t -> {
            t.due("new", t.onTheWay(), 0);
            t.put(1, 4);
            t.due("a payload that is not sent", t.onTheWay(), 0);
            t.send(0);
            t.link(48);
            t.due("all have come", t.onTheWay(), 0);
        });
        CASES.at(promise, "How many bytes are on the way: 6000", t -> {
            Cases.sendEmpty(t, 125);
            t.due("full", t.onTheWay(), 6000);
            t.due("link(1)", t.link(1), 1);
            t.due("one has come", t.onTheWay(), 5999);
        });
        CASES.at(promise, "How many bytes are on the way: what take does is nothing to it", t -> {
            t.send(0);
            t.send(0);
            t.link(50);
            t.due("before take", t.onTheWay(), 46);
            t.take();
            t.due("behind take", t.onTheWay(), 46);
        });
    }

    private static void octet(String promise) {
        CASES.at(promise, "Byte i (0 the first) on the way: the first and the last", t -> {
            t.send(0);
            t.due("octet(0)", t.octet(0), 0x66);
            t.due("octet(1)", t.octet(1), 0xe9);
            t.due("octet(47)", t.octet(47), 0x54);
        });
        CASES.at(promise, "Byte i (0 the first) on the way: another first behind link", t -> {
            t.send(0);
            t.link(1);
            t.due("octet(0)", t.octet(0), 0xe9);
            t.due("octet(46)", t.octet(46), 0x54);
            t.due("octet(47)", t.octet(47), Twin.INDEX);
            t.link(46);
            t.due("octet(0) of one byte", t.octet(0), 0x54);
            t.due("octet(1) of one byte", t.octet(1), Twin.INDEX);
        });
        int[] wrong = {-1, 48, 49, MIN, MAX};
        for (int i : wrong) {
            CASES.at(promise, "IndexOutOfBoundsException when there is none such: " + i, t -> {
                t.send(0);
                t.due("octet", t.octet(i), Twin.INDEX);
                t.due("octet(47)", t.octet(47), 0x54);
            });
        }
        int[] none = {-1, 0, 1, MIN, MAX};
        for (int i : none) {
            CASES.at(promise, "IndexOutOfBoundsException when there is none such: no byte, " + i,
                    t -> {
                t.due("octet, new", t.octet(i), Twin.INDEX);
                t.send(0);
                t.link(48);
                t.due("octet, all have come", t.octet(i), Twin.INDEX);
                t.send(0);
                t.begin();
                t.due("octet, begun", t.octet(i), Twin.INDEX);
            });
        }
    }

    private static void octetOfFullWay(String promise) {
        CASES.at(promise, "none such: the last of 6000 and the one behind it", t -> {
            Cases.sendEmpty(t, 125);
            t.octet(5999);
            t.due("octet(6000)", t.octet(6000), Twin.INDEX);
            t.link(1);
            t.octet(5998);
            t.due("octet(5999)", t.octet(5999), Twin.INDEX);
            t.link(47);
            t.send(9);
            // The newest byte may lie where the first one lay.
            t.octet(5951);
            t.octet(5952);
            t.octet(5999);
            t.due("octet(6000)", t.octet(6000), Twin.INDEX);
            t.glance();
        });
    }

    private static void alter(String promise) {
        int[] masks = {0, 1, 128, 255, 256, 0x1ff, -256, -1, MIN, MAX};
        for (int mask : masks) {
            CASES.at(promise, "xored with a mask's lowest byte: " + mask, t -> {
                t.send(0);
                t.due("alter", t.alter(1, mask), 0);
                t.due("octet(0)", t.octet(0), 0x66);
                t.due("octet(1)", t.octet(1), 0xe9 ^ (mask & 255));
                t.due("octet(2)", t.octet(2), 0x4b);
                t.due("alter", t.alter(1, mask), 0);
                t.due("octet(1), altered back", t.octet(1), 0xe9);
                t.due("take()", Cases.pass(t), 0);
            });
        }
        CASES.at(promise, "Byte i on the way is altered: the first and the last", t -> {
            t.send(0);
            t.alter(0, 255);
            t.alter(47, 255);
            t.due("octet(0)", t.octet(0), 0x66 ^ 255);
            t.due("octet(47)", t.octet(47), 0x54 ^ 255);
            t.alter(0, 255);
            t.due("another seal", Cases.pass(t), -3);
        });
        CASES.at(promise, "Byte i on the way is altered: not one that came", t -> {
            t.send(0);
            t.send(0);
            t.link(48);
            t.alter(0, 255);
            t.due("take() of the first", t.take(), 0);
            t.due("take() of the other", Cases.pass(t), -2);
        });
        CASES.at(promise, "Byte i on the way is altered: the last of 6000", t -> {
            Cases.sendEmpty(t, 125);
            t.link(48);
            t.send(0);
            long last = t.octet(5999);
            t.due("alter(5999, 1)", t.alter(5999, 1), 0);
            t.due("octet(5999)", t.octet(5999), last ^ 1);
            t.due("alter(6000, 1)", t.alter(6000, 1), Twin.INDEX);
            t.glance();
        });
    }

    private static void alterRefused(String promise) {
        int[] wrong = {-1, 48, 49, MIN, MAX};
        for (int i : wrong) {
            CASES.at(promise, "IndexOutOfBoundsException: " + i, t -> {
                t.send(0);
                t.due("alter", t.alter(i, 1), Twin.INDEX);
                t.due("alter by nothing", t.alter(i, 0), Twin.INDEX);
                t.look();
                t.send(0);
                t.link(MAX);
                t.due("take()", t.take(), 0);
                t.due("take()", t.take(), 0);
            });
        }
        int[] none = {-1, 0, 1, MIN, MAX};
        for (int i : none) {
            CASES.at(promise, "IndexOutOfBoundsException: no byte, " + i, t -> {
                t.due("alter, new", t.alter(i, 1), Twin.INDEX);
                t.send(0);
                t.link(48);
                t.due("alter, all have come", t.alter(i, 1), Twin.INDEX);
                t.due("take()", t.take(), 0);
                t.send(0);
                t.due("take() of the next", Cases.pass(t), 0);
            });
        }
    }

    private static void link(String promise) {
        CASES.at(promise, "The first n bytes on the way: none", t -> {
            t.due("link(0), new", t.link(0), 0);
            t.send(0);
            t.due("link(0)", t.link(0), 0);
            t.due("onTheWay()", t.onTheWay(), 48);
            t.due("take()", t.take(), NONE);
            t.due("octet(0)", t.octet(0), 0x66);
        });
        CASES.at(promise, "The first n bytes on the way: one each", t -> {
            t.put(0x6162, 2);
            t.send(0);
            for (int i = 0; i < 48; i++) {
                t.due("take()", t.take(), NONE);
                t.due("link(1)", t.link(1), 1);
                t.due("onTheWay()", t.onTheWay(), 47 - i);
            }
            t.due("take()", t.take(), 2);
            t.due("link(1)", t.link(1), 0);
        });
        int[] enough = {47, 48, 49, 2000, 2001, MAX};
        for (int n : enough) {
            CASES.at(promise, "all, if there are less: " + n + " of 48", t -> {
                t.send(0);
                t.due("link", t.link(n), Math.min(n, 48));
                t.due("onTheWay()", t.onTheWay(), 48 - Math.min(n, 48));
                t.due("take()", t.take(), n < 48 ? NONE : 0);
            });
        }
        int[] any = {0, 1, 2001, MAX};
        for (int n : any) {
            CASES.at(promise, "all, if there are less: " + n + " of none", t -> {
                t.due("link", t.link(n), 0);
                t.due("take()", t.take(), NONE);
            });
        }
    }

    private static void linkRefused(String promise) {
        int[] wrong = {-1, -48, MIN};
        for (int n : wrong) {
            CASES.at(promise, "IllegalArgumentException when n is below 0: " + n, t -> {
                t.due("link, nothing on the way", t.link(n), Twin.ARGUMENT);
                t.send(0);
                t.due("link", t.link(n), Twin.ARGUMENT);
                t.due("onTheWay()", t.onTheWay(), 48);
                t.due("take()", t.take(), NONE);
                t.due("link(0)", t.link(0), 0);
                t.due("take()", Cases.pass(t), 0);
            });
            CASES.at(promise, "IllegalArgumentException when n is below 0: the receiver is full, "
                    + n, t -> {
                fillReceiver(t);
                t.due("link", t.link(n), Twin.ARGUMENT);
                t.due("onTheWay()", t.onTheWay(), 16);
            });
        }
    }

    private static void linkTooMuch(String promise) {
        String words = "IllegalStateException when the receiver would have more than 2000";
        CASES.at(promise, words + ": 2001 at once, then 2000", t -> {
            Cases.sendEmpty(t, 42);
            t.due("link(2001)", t.link(2001), Twin.STATE);
            t.due("onTheWay()", t.onTheWay(), 2016);
            t.due("take() of nothing", t.take(), NONE);
            t.due("link(2000)", t.link(2000), 2000);
            t.due("onTheWay()", t.onTheWay(), 16);
            for (int i = 0; i < 41; i++) {
                t.due("take()", t.take(), 0);
            }
            t.due("take() of the 42nd, not all there", t.take(), NONE);
            t.due("take() of the 42nd", Cases.pass(t), 0);
        });
        CASES.at(promise, words + ": one more", t -> {
            fillReceiver(t);
            t.due("link(1)", t.link(1), Twin.STATE);
            t.due("link(16)", t.link(16), Twin.STATE);
            t.due("link(MAX)", t.link(MAX), Twin.STATE);
            t.due("link(0)", t.link(0), 0);
            t.due("onTheWay()", t.onTheWay(), 16);
        });
        CASES.at(promise, words + ": all that there are, 2000 of them", t -> {
            Cases.sendEmpty(t, 42);
            t.link(16);
            t.due("link(MAX) to 2016", t.link(MAX), Twin.STATE);
            t.begin();
            Cases.sendEmpty(t, 41);
            t.due("link(MAX) to 1968", t.link(MAX), 1968);
            t.send(0);
            t.due("link(33) to 2001", t.link(33), Twin.STATE);
            t.due("link(32) to 2000", t.link(32), 32);
            t.due("link(1) to 2001", t.link(1), Twin.STATE);
        });
        CASES.at(promise, words + ": full, and nothing on the way", t -> {
            Cases.sendEmpty(t, 38);
            t.fill(132);
            t.due("send", t.send(0), 176);
            t.due("link(2000)", t.link(2000), 2000);
            t.due("link(1)", t.link(1), 0);
            t.due("link(MAX)", t.link(MAX), 0);
        });
        CASES.at(promise, words + ": by sums that go round", t -> {
            t.send(0);
            t.link(1);
            t.due("link(MAX) of 47", t.link(MAX), 47);
            t.due("take()", t.take(), 0);
        });
    }

    private static void linkBehindTake(String promise) {
        String words = "that it has not opened";
        CASES.at(promise, words + ": an opened packet makes room for as many bytes", t -> {
            fillReceiver(t);
            t.send(0);
            t.due("link(1)", t.link(1), Twin.STATE);
            t.due("take()", t.take(), 0);
            t.due("link(49)", t.link(49), Twin.STATE);
            t.due("link(48)", t.link(48), 48);
            t.due("link(1)", t.link(1), Twin.STATE);
            t.glance();
            for (int i = 0; i < 41; i++) {
                t.due("take()", t.take(), 0);
            }
            t.due("take()", t.take(), NONE);
            t.due("link(MAX)", t.link(MAX), 16);
            t.due("take()", t.take(), 0);
        });
        CASES.at(promise, words + ": a packet that take has seen a part of", t -> {
            Cases.sendEmpty(t, 42);
            t.link(47);
            t.due("take()", t.take(), NONE);
            t.due("link(1954)", t.link(1954), Twin.STATE);
            t.due("link(1953)", t.link(1953), 1953);
        });
        CASES.at(promise, words + ": a packet with a fault, and all behind it", t -> {
            t.forge(0, 0);
            Cases.sendEmpty(t, 41);
            t.link(48);
            t.due("take()", t.take(), -2);
            t.due("link(1953)", t.link(1953), Twin.STATE);
            t.due("link(1952)", t.link(1952), 1952);
            t.due("link(1)", t.link(1), Twin.STATE);
            t.due("take()", t.take(), -2);
            t.due("link(1)", t.link(1), Twin.STATE);
        });
        CASES.at(promise, words + ": none behind begin", t -> {
            fillReceiver(t);
            t.begin();
            Cases.sendEmpty(t, 42);
            t.due("link(2001)", t.link(2001), Twin.STATE);
            t.due("link(2000)", t.link(2000), 2000);
        });
    }

    /** 2000 bytes came, 41 packets and 32 bytes of another, and sixteen are on the way. */
    private static void fillReceiver(Twin t) {
        Cases.sendEmpty(t, 42);
        t.due("link(2000)", t.link(2000), 2000);
    }
}
