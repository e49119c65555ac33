import java.lang.reflect.Field;
import java.util.ArrayList;
import java.util.List;
import java.util.function.IntSupplier;

/**
 * A PacketGuard and a Model that get the same calls; every answer of the one is compared with the
 * other's. An exception counts as an answer, but only if it is of the very class that the document
 * names: what the machine throws is of another one.
 */
final class Twin {
    static final long INDEX = Long.MIN_VALUE + 1;
    static final long ARGUMENT = Long.MIN_VALUE + 2;
    static final long STATE = Long.MIN_VALUE + 3;
    static final long OTHER = Long.MIN_VALUE + 4;

    final Model model = new Model();
    private final PacketGuard guard = new PacketGuard();
    private final Check check;
    private final String name;
    private final List<String> told = new ArrayList<>();
    private int calls;

    Twin(Check check, String name) {
        this.check = check;
        this.name = name;
    }

    static String text(long answer) {
        if (answer == INDEX) {
            return "throws.IndexOutOfBoundsException";
        } else if (answer == ARGUMENT) {
            return "throws.IllegalArgumentException";
        } else if (answer == STATE) {
            return "throws.IllegalStateException";
        }
        return answer == OTHER ? "another exception" : Long.toString(answer);
    }

    long key(int i, int v) {
        return both("key(" + i + ", " + v + ")", () -> {
            guard.key(i, v);
            return 0;
        }, () -> model.key(i, v));
    }

    long turn(int side) {
        return both("turn(" + side + ")", () -> {
            guard.turn(side);
            return 0;
        }, () -> model.turn(side));
    }

    long put(int v, int n) {
        return both("put(" + v + ", " + n + ")", () -> guard.put(v, n), () -> model.put(v, n));
    }

    long send(int pad) {
        return both("send(" + pad + ")", () -> guard.send(pad), () -> model.send(pad));
    }

    long forge(int length, int padding) {
        return both("forge(" + length + ", " + padding + ")",
                () -> guard.forge(length, padding), () -> model.forge(length, padding));
    }

    long onTheWay() {
        return both("onTheWay()", guard::onTheWay, model::onTheWay);
    }

    long octet(int i) {
        return both("octet(" + i + ")", () -> guard.octet(i), () -> model.octet(i));
    }

    long alter(int i, int mask) {
        return both("alter(" + i + ", " + mask + ")", () -> {
            guard.alter(i, mask);
            return 0;
        }, () -> model.alter(i, mask));
    }

    long link(int n) {
        return both("link(" + n + ")", () -> guard.link(n), () -> model.link(n));
    }

    long take() {
        return both("take()", guard::take, model::take);
    }

    long got(int i) {
        return both("got(" + i + ")", () -> guard.got(i), () -> model.got(i));
    }

    long number(int side) {
        return both("number(" + side + ")", () -> guard.number(side), () -> model.number(side));
    }

    long begin() {
        return both("begin()", () -> {
            guard.begin();
            return 0;
        }, model::begin);
    }

    int calls() {
        return calls;
    }

    /** What each call from a first one on answered, in words. */
    List<String> toldFrom(int call) {
        return told.subList(call, told.size());
    }

    /** An answer of this run that is written out in the test. */
    void due(String what, long got, long want) {
        check.due(name + ", behind call " + calls + ": " + what, got, want);
    }

    /** Puts the sides' next numbers where no 512 calls could bring them. */
    void setNumbers(int sent, int opened) {
        setNumber("sender", sent);
        setNumber("receiver", opened);
        model.setNumbers(sent, opened);
    }

    private void setNumber(String side, int number) {
        try {
            Field sideField = PacketGuard.class.getDeclaredField(side);
            sideField.setAccessible(true);
            Object inside = sideField.get(guard);
            Field numberField = inside.getClass().getDeclaredField("nextNumber");
            numberField.setAccessible(true);
            numberField.setInt(inside, number);
        } catch (ReflectiveOperationException e) {
            throw new AssertionError(e);
        }
    }

    /** Compares all that can be seen without a change. */
    void look() {
        number(0);
        number(1);
        int many = (int) onTheWay();
        for (int i = 0; i <= many; i++) {
            octet(i);
        }
        int opened = model.openedLength();
        for (int i = 0; i <= opened; i++) {
            got(i);
        }
    }

    /** Compares enough of what can be seen, by some hundred calls at most. */
    void glance() {
        number(0);
        number(1);
        int many = (int) onTheWay();
        for (int i = 0; i <= many; i++) {
            if (i < 4 || i >= many - 50) {
                octet(i);
            }
        }
        int opened = model.openedLength();
        for (int i = 0; i <= opened; i++) {
            if (i < 4 || i >= opened - 4) {
                got(i);
            }
        }
    }

    /** The sixteen words from a first one on, each odd and unlike the others. */
    void keys(int first) {
        for (int i = 0; i < 16; i++) {
            key(i, first + i * 0x1234567);
        }
    }

    /** A payload of some bytes. */
    void fill(int bytes) {
        for (int i = 0; i + 4 <= bytes; i += 4) {
            put(i * 0x9e3779b1 + 5, 4);
        }
        if (bytes % 4 != 0) {
            put(bytes * 0x85ebca6b, bytes % 4);
        }
    }

    private long both(String call, IntSupplier mine, IntSupplier due) {
        calls++;
        long got = answer(mine);
        long want = answer(due);
        check.due(name + ", call " + calls + ": " + call, got, want);
        told.add(call + " " + text(got));
        return got;
    }

    private static long answer(IntSupplier call) {
        try {
            return call.getAsInt();
        } catch (RuntimeException e) {
            if (e.getClass() == IndexOutOfBoundsException.class) {
                return INDEX;
            } else if (e.getClass() == IllegalArgumentException.class) {
                return ARGUMENT;
            }
            return e.getClass() == IllegalStateException.class ? STATE : OTHER;
        }
    }
}
