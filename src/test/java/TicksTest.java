import java.util.Random;

/** Promises 1 to 13 together: random runs of calls, held against the tick-by-tick model after every call. */
public final class TicksTest {
    private static final int RUNS = 400;
    private static final int CALLS = 120;

    private static final Check CHECK = new Check("TicksTest");

    private final Random random;
    private final String name;
    private final LinkShaper x = new LinkShaper();
    private final TickModel model = new TickModel();

    private TicksTest(int seed) {
        random = new Random(seed);
        name = "seed " + seed;
    }

    public static void main(String[] args) {
        for (int seed = 0; seed < RUNS && CHECK.allDue(); seed++) {
            new TicksTest(seed).go();
        }
        CHECK.end();
    }

    private void go() {
        int groups = 1 + random.nextInt(4);
        for (int i = 0; i < groups; i++) {
            makeGroup();
        }
        int leaves = 1 + random.nextInt(8);
        for (int i = 0; i < leaves; i++) {
            makeLeaf();
        }
        int haste = 1 + random.nextInt(8);
        for (int call = 0; call < CALLS && CHECK.allDue(); call++) {
            String told = name + ", call " + call + ", ";
            int kind = random.nextInt(20);
            if (kind == 0) {
                makeLeaf();
            } else if (kind == 1) {
                makeGroup();
            } else if (kind == 2) {
                police();
            } else if (kind < 3 + haste) {
                run();
            } else {
                arrive();
            }
            compare(told);
        }
    }

    private int from(int... choices) {
        return choices[random.nextInt(choices.length)];
    }

    private int burst() {
        return from(1500, 1500, 1501, 3000, 20000, 1499, 1500 + random.nextInt(18501));
    }

    private int rate() {
        return from(0, 1, 10, 50, 100, 300, 500, 1000, 1000, random.nextInt(1001), 1001, -1);
    }

    private void makeGroup() {
        int weight = from(1, 2, 3, 7, 12, 1 + random.nextInt(12), 0, 13);
        int ceiling = rate();
        int burst = burst();
        CHECK.due(name + ", group(" + weight + ", " + ceiling + ", " + burst + ")",
                x.group(weight, ceiling, burst), model.group(weight, ceiling, burst));
    }

    private void makeLeaf() {
        int group = random.nextInt(6) - 1;
        int weight = from(1, 1, 2, 3, 5, 12, 1 + random.nextInt(12), 0, 13);
        int guarantee = from(0, 0, 0, 10, 10, 33, 100, 200, 300, 9, random.nextInt(1001));
        int ceiling = Math.max(guarantee - random.nextInt(2), rate());
        int burst = burst();
        int limit = from(1500, 3000, 9000, 60000, 60000, 60001, 1499);
        CHECK.due(name + ", leaf(" + group + ", " + weight + ", " + guarantee + ", " + ceiling + ", " + burst + ", " + limit + ")",
                x.leaf(group, weight, guarantee, ceiling, burst, limit),
                model.leaf(group, weight, guarantee, ceiling, burst, limit));
    }

    private void police() {
        int leaf = random.nextInt(9) - 1;
        int rate = rate();
        int burst = from(0, 63, 64, 500, 1500, 5000, 20000, 20001, -1);
        boolean marks = random.nextBoolean();
        CHECK.due(name + ", police(" + leaf + ", " + rate + ", " + burst + ", " + marks + ")",
                x.police(leaf, rate, burst, marks), model.police(leaf, rate, burst, marks));
    }

    private void arrive() {
        int leaf = random.nextInt(10) == 0 ? random.nextInt(10) - 1 : random.nextInt(Math.max(1, x.count(1)));
        int size = from(64, 64, 100, 500, 1000, 1500, 1500, 64 + random.nextInt(1437), 63, 1501);
        CHECK.due(name + ", arrive(" + leaf + ", " + size + ")", x.arrive(leaf, size), model.arrive(leaf, size));
    }

    private void run() {
        int ticks = from(1, 1, 2, 64, 100, 499, 500, 1500, random.nextInt(3000), random.nextInt(20000), 0);
        if (random.nextInt(300) == 0) {
            ticks = 100000 + random.nextInt(2);
        }
        CHECK.due(name + ", run(" + ticks + ")", x.run(ticks), model.run(ticks));
    }

    private void compare(String told) {
        CHECK.due(told + "now()", x.now(), model.tick);
        for (int what = -1; what <= 6; what++) {
            CHECK.due(told + "count(" + what + ")", x.count(what), model.count(what));
        }
        for (int k = -1; k <= 8; k++) {
            compareNumber(told, k);
        }
        for (int k = -1; k <= model.packets.size(); k++) {
            for (int what = -1; what <= 7; what++) {
                if (x.packet(k, what) != model.packet(k, what)) {
                    CHECK.due(told + "packet(" + k + ", " + what + ")", x.packet(k, what), model.packet(k, what));
                }
            }
            if (x.sent(k) != model.sent(k)) {
                CHECK.due(told + "sent(" + k + ")", x.sent(k), model.sent(k));
            }
        }
    }

    private void compareNumber(String told, int k) {
        for (int what = -1; what <= 8; what++) {
            CHECK.due(told + "about(" + k + ", " + what + ")", x.about(k, what), model.about(k, what));
        }
        for (int what = -1; what <= 4; what++) {
            CHECK.due(told + "tokens(" + k + ", " + what + ")", x.tokens(k, what), model.tokens(k, what));
            CHECK.due(told + "tag(" + k + ", " + what + ")", x.tag(k, what), model.tag(k, what));
        }
    }
}
