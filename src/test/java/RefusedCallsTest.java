import java.util.ArrayList;
import java.util.List;
import java.util.function.ToLongFunction;

/**
 * Terms, "A call that throws changes nothing": every call that is refused, in every situation,
 * throws what its promise names, and all later answers are as if it had not been made.
 */
public final class RefusedCallsTest {
    private static final Check CHECK = new Check();
    private static final int MIN = Integer.MIN_VALUE;
    private static final int MAX = Integer.MAX_VALUE;

    private record Refused(String name, long due, ToLongFunction<Twin> call) {
    }

    public static void main(String[] args) {
        int refused = 0;
        for (Situations.Part before : Situations.BEFORE) {
            Twin there = new Twin(CHECK, before.name());
            before.calls().accept(there);
            List<Refused> calls = refusedAnywhere(there);
            addRefusedHere(before.name(), calls);
            refused += calls.size();
            for (Situations.Part later : Situations.LATER) {
                compare(before, later, calls);
            }
        }
        System.out.println("RefusedCallsTest: " + refused + " refused calls, each before "
                + Situations.LATER.size() + " runs");
        CHECK.end("RefusedCallsTest");
    }

    private static void compare(Situations.Part before, Situations.Part later,
            List<Refused> calls) {
        Twin without = new Twin(CHECK, before.name());
        before.calls().accept(without);
        int start = without.calls();
        later.calls().accept(without);
        List<String> due = without.toldFrom(start);
        for (Refused refused : calls) {
            String name = refused.name() + " refused, " + before.name() + ", " + later.name();
            Twin with = new Twin(CHECK, name);
            before.calls().accept(with);
            with.due("the answer", refused.call().applyAsLong(with), refused.due());
            int behind = with.calls();
            later.calls().accept(with);
            CHECK.holds(name + ": later answers as if it had not been made",
                    with.toldFrom(behind).equals(due));
            CHECK.holds(name + ": keeps to 512 calls", with.calls() <= Cases.MOST_CALLS);
        }
    }

    /** Calls that are refused in every situation. */
    private static List<Refused> refusedAnywhere(Twin there) {
        List<Refused> calls = new ArrayList<>();
        for (int i : new int[] {-1, 16, MIN, MAX}) {
            add(calls, "Promise 2: key(" + i + ", 99)", Twin.INDEX, t -> t.key(i, 99));
        }
        for (int side : new int[] {-1, 2, MIN, MAX}) {
            add(calls, "Promise 3: turn(" + side + ")", Twin.INDEX, t -> t.turn(side));
            add(calls, "Promise 13: number(" + side + ")", Twin.INDEX, t -> t.number(side));
        }
        for (int n : new int[] {0, 5, -1, MIN, MAX}) {
            add(calls, "Promise 4: put(99, " + n + ")", Twin.ARGUMENT, t -> t.put(99, n));
        }
        int way = there.model.onTheWay();
        for (int i : new int[] {-1, way, MIN, MAX}) {
            add(calls, "Promise 8: octet(" + i + ")", Twin.INDEX, t -> t.octet(i));
            add(calls, "Promise 9: alter(" + i + ", 99)", Twin.INDEX, t -> t.alter(i, 99));
        }
        for (int n : new int[] {-1, MIN}) {
            add(calls, "Promise 10: link(" + n + ")", Twin.ARGUMENT, t -> t.link(n));
        }
        int opened = there.model.openedLength();
        for (int i : new int[] {-1, opened, MIN, MAX}) {
            add(calls, "Promise 12: got(" + i + ")", Twin.INDEX, t -> t.got(i));
        }
        return calls;
    }

    /** Calls that are refused where there is no room, or not enough. */
    private static void addRefusedHere(String situation, List<Refused> calls) {
        switch (situation) {
            case "a full payload" -> addPuts(calls, 1);
            case "a payload of 498" -> addPuts(calls, 3);
            case "a full way", "5953 bytes on the way" -> addSends(calls);
            case "a full receiver", "1999 bytes came" -> addLinks(calls);
            default -> { }
        }
        if (situation.equals("a full receiver")) {
            add(calls, "Promise 10: link(1)", Twin.STATE, t -> t.link(1));
        }
        if (situation.equals("a full way")) {
            add(calls, "Promise 10: link(2001)", Twin.STATE, t -> t.link(2001));
        }
    }

    private static void addPuts(List<Refused> calls, int least) {
        for (int n = least; n <= 4; n++) {
            int many = n;
            add(calls, "Promise 4: put(99, " + n + ")", Twin.STATE, t -> t.put(99, many));
        }
    }

    private static void addSends(List<Refused> calls) {
        add(calls, "Promise 5: send(99)", Twin.STATE, t -> t.send(99));
        add(calls, "Promise 6: forge(12, 4)", Twin.STATE, t -> t.forge(12, 4));
        add(calls, "Promise 6: forge(MIN, MAX)", Twin.STATE, t -> t.forge(MIN, MAX));
    }

    private static void addLinks(List<Refused> calls) {
        add(calls, "Promise 10: link(2)", Twin.STATE, t -> t.link(2));
        add(calls, "Promise 10: link(MAX)", Twin.STATE, t -> t.link(MAX));
    }

    private static void add(List<Refused> calls, String name, long due,
            ToLongFunction<Twin> call) {
        calls.add(new Refused(name, due, call));
    }
}
