import java.util.Map;
import java.util.Random;
import java.util.TreeMap;

/** Runs of 512 calls or some more, drawn from written seeds, compared with the model. */
public final class RandomRunsTest {
    private static final int RUNS = 600;
    private static final int CALLS = 512;

    private final Check check;
    private final Map<String, Integer> seen;
    private final Random random;
    private final Twin twin;
    /** How often, of a thousand calls, something is done that tends to end in a fault. */
    private final int wildness;
    private final int longestFill;
    /** On a slow link the bytes on the way become many. */
    private final boolean slow;

    private RandomRunsTest(Check check, Map<String, Integer> seen, int seed) {
        this.check = check;
        this.seen = seen;
        random = new Random(seed);
        twin = new Twin(check, "seed " + seed);
        int[] wild = {0, 10, 60, 300};
        wildness = wild[seed % wild.length];
        slow = seed % 5 == 0;
        longestFill = slow ? 4 : seed % 3 == 0 ? 126 : 12;
    }

    public static void main(String[] args) {
        Check check = new Check();
        Map<String, Integer> seen = new TreeMap<>();
        for (int seed = 0; seed < RUNS; seed++) {
            new RandomRunsTest(check, seen, seed).run();
        }
        System.out.println(seen);
        String[] must = {"take NONE", "take opened", "take fault 2", "take fault 3",
            "take fault 4", "put throws", "send throws", "forge throws", "link throws",
            "turn within a packet", "turn of both"};
        for (String what : must) {
            check.holds("the runs saw often enough: " + what, seen.getOrDefault(what, 0) >= 20);
        }
        check.end("RandomRunsTest");
    }

    private void run() {
        while (twin.calls() < CALLS) {
            if (random.nextInt(1000) < wildness) {
                wild();
            } else {
                calm();
            }
        }
        twin.look();
    }

    private void calm() {
        int choice = random.nextInt(100);
        if (choice < 15) {
            fill();
        } else if (choice < 45) {
            count("send", twin.send(random.nextInt()));
        } else if (choice < 47) {
            count("forge", twin.forge(12, 4 + random.nextInt(8)));
        } else if (choice < 66) {
            int most = slow ? 20 : random.nextBoolean() ? 3000 : 60;
            count("link", twin.link(random.nextInt(most)));
        } else if (choice < 88) {
            countTake(twin.take());
        } else if (choice < 91 && !slow) {
            turnBoth();
        } else if (choice < 94) {
            twin.octet(random.nextInt(7000) - 10);
        } else if (choice < 97) {
            twin.got(random.nextInt(600) - 10);
        } else if (choice < 98) {
            twin.number(random.nextInt(5) - 2);
        } else if (twin.model.isDead() && random.nextBoolean()) {
            twin.begin();
        } else {
            twin.onTheWay();
        }
    }

    private void wild() {
        int choice = random.nextInt(10);
        if (choice < 2) {
            twin.key(random.nextInt(20) - 2, random.nextInt());
        } else if (choice < 4) {
            twin.turn(random.nextInt(4) - 1);
        } else if (choice < 6) {
            twin.alter(random.nextInt(200) - 2, random.nextInt());
        } else if (choice < 7) {
            count("forge", twin.forge(random.nextInt(40) * 16 - 20, random.nextInt(300)));
        } else if (choice < 8) {
            count("forge", twin.forge(random.nextInt(), random.nextInt()));
        } else if (choice < 9) {
            twin.link(-random.nextInt(3));
        } else {
            twin.begin();
        }
    }

    private void fill() {
        int puts = random.nextInt(longestFill);
        for (int i = 0; i < puts; i++) {
            int n = random.nextInt(40) == 0 ? random.nextInt() : 1 + random.nextInt(4);
            count("put", twin.put(random.nextInt(), n));
        }
    }

    /** Both sides turn for the same packet, as two that agree would do. */
    private void turnBoth() {
        int i = random.nextInt(16);
        twin.key(i, random.nextInt(3) == 0 ? -1 - random.nextInt(2) : random.nextInt());
        if (twin.model.isQuiet()) {
            twin.turn(0);
            twin.turn(1);
            count("turn of both", 0);
            return;
        }
        drain();
        if (!twin.model.isQuiet()) {
            return;
        }
        // The receiver turns within the last packet of the keys before.
        twin.send(0);
        twin.turn(0);
        twin.link(16 + random.nextInt(32));
        countTake(twin.take());
        twin.turn(1);
        count("turn within a packet", 0);
    }

    private void drain() {
        for (int i = 0; i < 60 && !twin.model.isQuiet() && !twin.model.isDead(); i++) {
            twin.link(500);
            countTake(twin.take());
        }
    }

    private void countTake(long answer) {
        if (answer >= 0) {
            count("take opened", 0);
        } else if (answer == -1) {
            count("take NONE", 0);
        } else {
            count("take fault " + -answer, 0);
        }
    }

    private void count(String what, long answer) {
        boolean thrown = answer == Twin.STATE || answer == Twin.ARGUMENT;
        seen.merge(thrown ? what + " throws" : what, 1, Integer::sum);
    }
}
