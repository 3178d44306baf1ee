/** Part I of the Terms, sentence by sentence: time, rates, buckets, and what groups, classes and packets may be. */
public final class TermsOneTest {
    private static final int NONE = Shapers.NONE;
    private static final int LOW = Shapers.LOW;
    private static final int HIGH = Shapers.HIGH;

    private static final String TIME = "TIME goes in TICKS from 0 on; the link sends one byte a TICK.";
    private static final String RATES = "RATES are in thousandths of that, 0 to 1000.";
    private static final String BUCKET = "A BUCKET has a RATE and a BURST of bytes: its TOKENS, thousandths of bytes, "
            + "are 1000 times its BURST at first; with each TICK its RATE comes to them, "
            + "but never more than 1000 times the BURST are there.";
    private static final String GROUPS =
            "GROUPS, 4 at most: a WEIGHT 1 to 12, and a BUCKET (its CEILING, BURST 1500 to 20000).";
    private static final String CLASSES = "CLASSES, 8 at most, each in a group: a WEIGHT 1 to 12, "
            + "a GUARANTEE (a RATE: 0, or 10 to 1000), a BUCKET (its CEILING, not below the GUARANTEE, "
            + "BURST 1500 to 20000), a LIMIT of bytes that may wait, 1500 to 60000.";
    private static final String GUARANTEES =
            "All GUARANTEES together are at most 1000; those of a group at most its CEILING.";
    private static final String POLICER = "A POLICER of a class is a BUCKET (RATE, BURST 0 to 20000), "
            + "and whether it MARKS; at first there is none.";
    private static final String PACKETS = "PACKETS have 64 to 1500 bytes.";

    private static final Check CHECK = new Check("TermsOneTest");

    public static void main(String[] args) throws Exception {
        Sentences.run(TermsOneTest.class, CHECK);
    }

    /** Asked of a new object each time, so that no answer bears on another. */
    private static void groupIs(boolean right, int weight, int ceiling, int burst) {
        LinkShaper x = new LinkShaper();
        String call = "group(" + weight + ", " + ceiling + ", " + burst + ")";
        CHECK.due(call, x.group(weight, ceiling, burst), right ? 0 : NONE);
        CHECK.due("count(0) after " + call, x.count(0), right ? 1 : 0);
    }

    private static void leafIs(boolean right, int weight, int guarantee, int ceiling, int burst, int limit) {
        LinkShaper x = Shapers.wide(1);
        String call = "leaf(0, " + weight + ", " + guarantee + ", " + ceiling + ", " + burst + ", " + limit + ")";
        CHECK.due(call, x.leaf(0, weight, guarantee, ceiling, burst, limit), right ? 0 : NONE);
        CHECK.due("count(1) after " + call, x.count(1), right ? 1 : 0);
    }

    private static void policeIs(boolean right, int rate, int burst) {
        LinkShaper x = Shapers.wideClass();
        CHECK.due("police(0, " + rate + ", " + burst + ", false)", x.police(0, rate, burst, false), right);
        CHECK.due("police(0, " + rate + ", " + burst + ", true)", x.police(0, rate, burst, true), right);
    }

    private static void arriveIs(boolean right, int size) {
        LinkShaper x = Shapers.wideClass();
        CHECK.due("arrive(0, " + size + ")", x.arrive(0, size), right ? 0 : NONE);
        CHECK.due("about(0, 1) after it", x.about(0, 1), right ? size : 0);
    }

    @Sentence(under = "I", words = TIME)
    static void timeGoesFrom0On() {
        LinkShaper x = Shapers.wideClass();
        CHECK.due("now()", x.now(), 0);
        x.arrive(0, 64);
        x.run(1);
        CHECK.due("the tick in which the first one came", x.packet(0, 2), 0);
        CHECK.due("the tick in which it began", x.packet(0, 3), 0);
        CHECK.due("now() after one tick", x.now(), 1);
    }

    @Sentence(under = "I", words = TIME)
    static void timeOneByteATick() {
        for (int size : new int[] {64, 65, 1499, 1500}) {
            LinkShaper x = Shapers.wideClass();
            x.arrive(0, size);
            x.run(size - 1);
            CHECK.due("on the link ahead of the last of " + size + " ticks", x.count(5), 0);
            x.run(1);
            CHECK.due("on the link after " + size + " ticks", x.count(5), NONE);
            x.run(10);
            CHECK.due("ticks with something on the link", x.count(4), size);
        }
    }

    @Sentence(under = "I", words = RATES)
    static void ratesOfAGroupsCeiling() {
        for (int rate : new int[] {0, 1, 999, 1000}) {
            groupIs(true, 1, rate, 1500);
        }
        for (int rate : new int[] {LOW, -1000, -1, 1001, HIGH}) {
            groupIs(false, 1, rate, 1500);
        }
    }

    @Sentence(under = "I", words = RATES)
    static void ratesOfAClassesCeiling() {
        for (int rate : new int[] {0, 1, 999, 1000}) {
            leafIs(true, 1, 0, rate, 1500, 1500);
        }
        for (int rate : new int[] {LOW, -1000, -1, 1001, HIGH}) {
            leafIs(false, 1, 0, rate, 1500, 1500);
        }
    }

    @Sentence(under = "I", words = RATES)
    static void ratesOfAPolicer() {
        for (int rate : new int[] {0, 1, 999, 1000}) {
            policeIs(true, rate, 1500);
        }
        for (int rate : new int[] {LOW, -1000, -1, 1001, HIGH}) {
            policeIs(false, rate, 1500);
        }
    }

    @Sentence(under = "I", words = RATES)
    static void ratesAreThousandthsOfAByteATick() {
        int[][] rows = {{0, 0}, {1, 10}, {999, 9990}, {1000, 10000}};
        for (int[] row : rows) {
            LinkShaper x = Shapers.wideClass();
            x.police(0, row[0], 64, false);
            x.arrive(0, 64);
            x.run(10);
            CHECK.due("tokens that came in 10 ticks at rate " + row[0], x.tokens(0, 2), row[1]);
        }
    }

    @Sentence(under = "I", words = BUCKET)
    static void bucketIsFullAtFirst() {
        for (int burst : new int[] {1500, 1501, 20000}) {
            LinkShaper x = new LinkShaper();
            x.group(1, 0, burst);
            x.leaf(0, 1, 0, 0, burst, 1500);
            x.police(0, 0, burst, false);
            for (int what = 0; what <= 2; what++) {
                CHECK.due("tokens(0, " + what + ") of burst " + burst, x.tokens(0, what), 1000L * burst);
            }
        }
    }

    @Sentence(under = "I", words = BUCKET)
    static void bucketIsFullAtFirstInALateTickToo() {
        LinkShaper x = new LinkShaper();
        x.run(100000);
        x.group(1, 0, 1500);
        x.run(100000);
        x.leaf(0, 1, 0, 0, 1600, 1500);
        x.run(100000);
        x.police(0, 0, 1700, false);
        CHECK.due("tokens(0, 1)", x.tokens(0, 1), 1500000);
        CHECK.due("tokens(0, 0)", x.tokens(0, 0), 1600000);
        CHECK.due("tokens(0, 2)", x.tokens(0, 2), 1700000);
    }

    /** All three of a burst of 1500, and in tick 0 64 bytes are taken from each. */
    private static LinkShaper threeBuckets(int rate) {
        LinkShaper x = new LinkShaper();
        x.group(1, rate, 1500);
        x.leaf(0, 1, 0, rate, 1500, 1500);
        x.police(0, rate, 1500, false);
        x.arrive(0, 64);
        return x;
    }

    private static void threeBucketsAre(LinkShaper x, long tokens) {
        for (int what = 0; what <= 2; what++) {
            CHECK.due("tokens(0, " + what + ") ahead of tick " + x.now(), x.tokens(0, what), tokens);
        }
    }

    @Sentence(under = "I", words = BUCKET)
    static void bucketGetsItsRateWithEachTick() {
        LinkShaper x = threeBuckets(7);
        x.run(1);
        threeBucketsAre(x, 1436007);
        x.run(1);
        threeBucketsAre(x, 1436014);
        x.run(62);
        threeBucketsAre(x, 1436448);
        x.run(1);
        threeBucketsAre(x, 1436455);
        x.run(935);
        threeBucketsAre(x, 1443000);
    }

    @Sentence(under = "I", words = BUCKET)
    static void bucketNeverHoldsMoreThanItsBurst() {
        LinkShaper x = threeBuckets(7);
        x.run(9142);
        threeBucketsAre(x, 1499994);
        x.run(1);
        threeBucketsAre(x, 1500000);
        x.run(1);
        threeBucketsAre(x, 1500000);
        x.run(100000);
        threeBucketsAre(x, 1500000);
    }

    @Sentence(under = "I", words = BUCKET)
    static void bucketThatIsFullStaysFullWhileTheLinkIsBusy() {
        LinkShaper x = Shapers.wide(2);
        Shapers.wideLeaf(x, 0, 1, 0);
        Shapers.wideLeaf(x, 1, 1, 0);
        x.police(1, 1000, 100, false);
        x.arrive(0, 1500);
        x.run(1500);
        CHECK.due("another class's ceiling", x.tokens(1, 0), 20000000);
        CHECK.due("another group's ceiling", x.tokens(1, 1), 20000000);
        CHECK.due("another class's policer", x.tokens(1, 2), 100000);
    }

    @Sentence(under = "I", words = BUCKET)
    static void bucketOfRate0GetsNothing() {
        LinkShaper x = threeBuckets(0);
        x.run(1);
        threeBucketsAre(x, 1436000);
        x.run(100000);
        threeBucketsAre(x, 1436000);
    }

    @Sentence(under = "I", words = BUCKET)
    static void bucketOfBurst0HoldsNothing() {
        LinkShaper x = Shapers.wideClass();
        x.police(0, 1000, 0, false);
        CHECK.due("tokens(0, 2) at first", x.tokens(0, 2), 0);
        x.run(1);
        CHECK.due("tokens(0, 2) after a tick", x.tokens(0, 2), 0);
        x.run(100000);
        CHECK.due("tokens(0, 2) after many", x.tokens(0, 2), 0);
        CHECK.due("arrive(0, 64)", x.arrive(0, 64), -2);
    }

    @Sentence(under = "I", words = GROUPS)
    static void groups4AtMost() {
        LinkShaper x = new LinkShaper();
        for (int i = 0; i < 4; i++) {
            CHECK.due("group of number " + i, x.group(1, 1000, 1500), i);
        }
        CHECK.due("a fifth group", x.group(1, 1000, 1500), NONE);
        CHECK.due("a sixth group", x.group(1, 1000, 1500), NONE);
        CHECK.due("count(0)", x.count(0), 4);
        CHECK.due("a class in the fourth", x.leaf(3, 1, 0, 0, 1500, 1500), 0);
        CHECK.due("a class in a fifth", x.leaf(4, 1, 0, 0, 1500, 1500), NONE);
    }

    @Sentence(under = "I", words = GROUPS)
    static void groupsWeight1To12() {
        for (int weight = 1; weight <= 12; weight++) {
            groupIs(true, weight, 500, 1500);
        }
        for (int weight : new int[] {LOW, -1, 0, 13, HIGH}) {
            groupIs(false, weight, 500, 1500);
        }
    }

    @Sentence(under = "I", words = GROUPS)
    static void groupsBurst1500To20000() {
        for (int burst : new int[] {1500, 1501, 19999, 20000}) {
            groupIs(true, 1, 500, burst);
        }
        for (int burst : new int[] {LOW, -1500, 0, 1499, 20001, HIGH}) {
            groupIs(false, 1, 500, burst);
        }
    }

    @Sentence(under = "I", words = CLASSES)
    static void classes8AtMost() {
        LinkShaper x = Shapers.wide(1);
        for (int i = 0; i < 8; i++) {
            CHECK.due("class of number " + i, x.leaf(0, 1, 0, 0, 1500, 1500), i);
        }
        CHECK.due("a ninth class", x.leaf(0, 1, 0, 0, 1500, 1500), NONE);
        x.group(1, 1000, 1500);
        CHECK.due("a ninth class in another group", x.leaf(1, 1, 0, 0, 1500, 1500), NONE);
        CHECK.due("count(1)", x.count(1), 8);
        CHECK.due("arrive at the eighth", x.arrive(7, 64), 0);
        CHECK.due("arrive at a ninth", x.arrive(8, 64), NONE);
    }

    @Sentence(under = "I", words = CLASSES)
    static void classes8AtMostOfAllGroupsTogether() {
        LinkShaper x = Shapers.wide(4);
        for (int i = 0; i < 8; i++) {
            CHECK.due("class of number " + i, x.leaf(i % 4, 1, 0, 0, 1500, 1500), i);
        }
        for (int group = 0; group < 4; group++) {
            CHECK.due("a ninth class in group " + group, x.leaf(group, 1, 0, 0, 1500, 1500), NONE);
        }
    }

    @Sentence(under = "I", words = CLASSES)
    static void classesEachInAGroup() {
        LinkShaper x = Shapers.wide(2);
        Shapers.wideLeaf(x, 1, 1, 0);
        x.arrive(0, 64);
        x.run(1);
        CHECK.due("the other group's tokens", x.tokens(0, 1), 20000000);
        CHECK.due("its own group's tokens", x.tokens(1, 1), 20000000 - 64000 + 1000);
    }

    @Sentence(under = "I", words = CLASSES)
    static void classesWeight1To12() {
        for (int weight = 1; weight <= 12; weight++) {
            leafIs(true, weight, 0, 500, 1500, 1500);
        }
        for (int weight : new int[] {LOW, -1, 0, 13, HIGH}) {
            leafIs(false, weight, 0, 500, 1500, 1500);
        }
    }

    @Sentence(under = "I", words = CLASSES)
    static void classesGuarantee0Or10To1000() {
        for (int guarantee : new int[] {0, 10, 11, 999, 1000}) {
            leafIs(true, 1, guarantee, 1000, 1500, 1500);
        }
        for (int guarantee : new int[] {LOW, -1000, -10, -1, 1, 9, 1001, HIGH}) {
            leafIs(false, 1, guarantee, 1000, 1500, 1500);
        }
    }

    @Sentence(under = "I", words = CLASSES)
    static void classesCeilingNotBelowTheGuarantee() {
        int[][] right = {{10, 10}, {500, 500}, {500, 501}, {1000, 1000}, {0, 0}};
        for (int[] row : right) {
            leafIs(true, 1, row[0], row[1], 1500, 1500);
        }
        int[][] wrong = {{10, 9}, {10, 0}, {500, 499}, {1000, 999}, {10, -1}};
        for (int[] row : wrong) {
            leafIs(false, 1, row[0], row[1], 1500, 1500);
        }
    }

    @Sentence(under = "I", words = CLASSES)
    static void classesCeilingMayBeAboveTheirGroups() {
        LinkShaper x = new LinkShaper();
        x.group(1, 300, 1500);
        CHECK.due("leaf(0, 1, 0, 301, 1500, 1500)", x.leaf(0, 1, 0, 301, 1500, 1500), 0);
        CHECK.due("leaf(0, 1, 300, 1000, 1500, 1500)", x.leaf(0, 1, 300, 1000, 1500, 1500), 1);
    }

    @Sentence(under = "I", words = CLASSES)
    static void classesBurst1500To20000() {
        for (int burst : new int[] {1500, 1501, 19999, 20000}) {
            leafIs(true, 1, 0, 500, burst, 1500);
        }
        for (int burst : new int[] {LOW, -1500, 0, 1499, 20001, HIGH}) {
            leafIs(false, 1, 0, 500, burst, 1500);
        }
    }

    @Sentence(under = "I", words = CLASSES)
    static void classesLimit1500To60000() {
        for (int limit : new int[] {1500, 1501, 59999, 60000}) {
            leafIs(true, 1, 0, 500, 1500, limit);
        }
        for (int limit : new int[] {LOW, -1500, 0, 1499, 60001, HIGH}) {
            leafIs(false, 1, 0, 500, 1500, limit);
        }
    }

    @Sentence(under = "I", words = GUARANTEES)
    static void guaranteesTogetherAtMost1000() {
        LinkShaper x = Shapers.wide(2);
        CHECK.due("600", x.leaf(0, 1, 600, 1000, 1500, 1500), 0);
        CHECK.due("401 more, in another group", x.leaf(1, 1, 401, 1000, 1500, 1500), NONE);
        CHECK.due("390 more: what was refused takes no room", x.leaf(1, 1, 390, 1000, 1500, 1500), 1);
        CHECK.due("11 more", x.leaf(0, 1, 11, 1000, 1500, 1500), NONE);
        CHECK.due("10 more: 1000 in all", x.leaf(0, 1, 10, 1000, 1500, 1500), 2);
        CHECK.due("10 above 1000", x.leaf(1, 1, 10, 1000, 1500, 1500), NONE);
        CHECK.due("1000 above 1000", x.leaf(1, 1, 1000, 1000, 1500, 1500), NONE);
        CHECK.due("none more", x.leaf(1, 1, 0, 1000, 1500, 1500), 3);
    }

    @Sentence(under = "I", words = GUARANTEES)
    static void guaranteesOfAGroupAtMostItsCeiling() {
        LinkShaper x = new LinkShaper();
        x.group(1, 300, 1500);
        x.group(1, 400, 1500);
        CHECK.due("301 of 300", x.leaf(0, 1, 301, 1000, 1500, 1500), NONE);
        CHECK.due("290 of 300", x.leaf(0, 1, 290, 1000, 1500, 1500), 0);
        CHECK.due("11 more", x.leaf(0, 1, 11, 1000, 1500, 1500), NONE);
        CHECK.due("10 more", x.leaf(0, 1, 10, 1000, 1500, 1500), 1);
        CHECK.due("10 above 300", x.leaf(0, 1, 10, 1000, 1500, 1500), NONE);
        CHECK.due("none more", x.leaf(0, 1, 0, 1000, 1500, 1500), 2);
        CHECK.due("400 of another group's 400", x.leaf(1, 1, 400, 400, 1500, 1500), 3);
    }

    @Sentence(under = "I", words = GUARANTEES)
    static void guaranteesOfAGroupOfTheLeastCeilings() {
        int[][] rows = {{0, 10, NONE}, {0, 0, 0}, {9, 10, NONE}, {9, 0, 0}, {10, 10, 0}, {10, 11, NONE}};
        for (int[] row : rows) {
            LinkShaper x = new LinkShaper();
            x.group(1, row[0], 1500);
            CHECK.due(row[1] + " of " + row[0], x.leaf(0, 1, row[1], 1000, 1500, 1500), row[2]);
        }
    }

    @Sentence(under = "I", words = POLICER)
    static void policersBurst0To20000() {
        for (int burst : new int[] {0, 1, 19999, 20000}) {
            policeIs(true, 500, burst);
        }
        for (int burst : new int[] {LOW, -1, 20001, HIGH}) {
            policeIs(false, 500, burst);
        }
    }

    @Sentence(under = "I", words = POLICER)
    static void policerMarksOrRefuses() {
        LinkShaper x = Shapers.wideClass();
        Shapers.wideLeaf(x, 0, 1, 0);
        x.police(0, 0, 63, true);
        x.police(1, 0, 63, false);
        CHECK.due("one that marks", x.arrive(0, 64), 0);
        CHECK.due("its mark", x.packet(0, 6), 1);
        CHECK.due("one that does not", x.arrive(1, 64), -2);
    }

    @Sentence(under = "I", words = POLICER)
    static void policerAtFirstThereIsNone() {
        LinkShaper x = Shapers.wideClass();
        CHECK.due("tokens(0, 2)", x.tokens(0, 2), 0);
        x.run(1000);
        CHECK.due("tokens(0, 2) after 1000 ticks", x.tokens(0, 2), 0);
        for (int i = 0; i < 40; i++) {
            CHECK.due("arrive(0, 1500)", x.arrive(0, 1500), i);
            CHECK.due("its mark", x.packet(i, 6), 0);
        }
        CHECK.due("tokens(0, 2) after arrivals", x.tokens(0, 2), 0);
    }

    @Sentence(under = "I", words = PACKETS)
    static void packets64To1500Bytes() {
        for (int size : new int[] {64, 65, 1499, 1500}) {
            arriveIs(true, size);
        }
        for (int size : new int[] {LOW, -64, 0, 1, 63, 1501, HIGH}) {
            arriveIs(false, size);
        }
    }
}
