/** Part III of the Terms, sentence by sentence: which packet goes, and what becomes of clocks, sums and marks. */
public final class TermsThreeTest {
    private static final int NONE = Shapers.NONE;
    private static final long SCALE = 27720L;

    private static final String ONE_GOES = "At the begin of each TICK, if nothing is on the link, and a packet may go, "
            + "one goes: it is on the link for as many TICKS as it has bytes, this one the first. Which:";
    private static final String START = "DUE: the first packet of a class with a GUARANTEE above 0 has a START: "
            + "the greater of the class's CLOCK and of the TICK in which it came; "
            + "and a DEADLINE: that and 1000 times its size by the GUARANTEE, rounded up.";
    private static final String DUE = "Of packets whose START is not behind this TICK the one of the least DEADLINE goes, "
            + "of several that of the class of the least number.";
    private static final String CLOCK = "The CLOCK becomes the DEADLINE.";
    private static final String CLOCK_AT_FIRST = "(CLOCKS are 0 at first.)";
    private static final String EXCESS = "EXCESS, if none is DUE: of first packets of classes whose CEILING's TOKENS, "
            + "and whose group's CEILING's TOKENS, are at least 1000 times the size (others are HELD).";
    private static final String TAG = "A TAG of a packet in its class: "
            + "the class's SUM and 27720 times the size by the class's WEIGHT; "
            + "of a packet in its group: the group's SUM and 27720 times the size by the group's WEIGHT.";
    private static final String LEAST_TAG = "In each group the packet of the least TAG in its class, "
            + "of several that of the class of the least number; of these the one of the least TAG in its group, "
            + "of several that of the group of the least number.";
    private static final String SUMS = "The class's SUM becomes the TAG in its class, "
            + "and the group's MARK that, if it was less; "
            + "the group's SUM becomes the TAG in its group, and the link's MARK that, if it was less.";
    private static final String SUMS_AT_FIRST = "(SUMS, MARKS are 0 at first.)";
    private static final String COMES = "As a packet comes to a class in which nothing waits, "
            + "the class's SUM becomes its group's MARK, if it was less; "
            + "if nothing waits in the whole group, the group's SUM becomes the link's MARK, if it was less.";
    private static final String TAKEN = "Either way the class's CEILING's TOKENS and the group's become less "
            + "by 1000 times the size (below 0 by DUE ones, perhaps; TOKENS come as ever).";
    private static final String CONSTANTS = "The constants: `NONE = -1`: None.";

    private static final Check CHECK = new Check("TermsThreeTest");

    public static void main(String[] args) throws Exception {
        Sentences.run(TermsThreeTest.class, CHECK);
    }

    /** One class of guarantee and ceiling 500 whose first packet is sent as due in tick 0: its clock is 3000. */
    private static LinkShaper clockAt3000() {
        LinkShaper x = Shapers.wide(1);
        x.leaf(0, 1, 500, 500, 1500, 60000);
        x.arrive(0, 1500);
        x.run(1500);
        CHECK.due("its clock", x.about(0, 6), 3000);
        return x;
    }

    private static void sentIs(LinkShaper x, String told, String numbers) {
        CHECK.due("sent: " + told, Shapers.sent(x), numbers);
    }

    /** tag(k, 0) of a class, then tag(k, 1) and tag(k, 2) of a group, then the link's: as multiples of 27720. */
    private static void tagsAre(LinkShaper x, int leaf, int group, String told, int... bytes) {
        long[] got = {x.tag(leaf, 0), x.tag(group, 1), x.tag(group, 2), x.tag(0, 3)};
        String[] names = {"the class's SUM", "the group's SUM", "the group's MARK", "the link's MARK"};
        for (int i = 0; i < got.length; i++) {
            CHECK.due(names[i] + " " + told, got[i], SCALE * bytes[i]);
        }
    }

    @Sentence(under = "III", words = ONE_GOES)
    static void oneGoesAtATime() {
        LinkShaper x = Shapers.wide(1);
        Shapers.wideLeaf(x, 0, 1, 0);
        Shapers.wideLeaf(x, 0, 1, 500);
        Shapers.arriveTimes(x, 2, 0, 64);
        Shapers.arriveTimes(x, 2, 1, 64);
        CHECK.due("began in a tick", x.run(1), 1);
        CHECK.due("began while it is on the link", x.run(63), 0);
        CHECK.due("began in the next tick", x.run(1), 1);
    }

    @Sentence(under = "III", words = ONE_GOES)
    static void oneGoesInTheTickAfterTheLastByte() {
        for (int size : new int[] {64, 65, 1500}) {
            LinkShaper x = Shapers.wideClass();
            Shapers.arriveTimes(x, 2, 0, size);
            x.run(2 * size);
            CHECK.due("the first of " + size + " bytes began", x.packet(0, 3), 0);
            CHECK.due("the second began", x.packet(1, 3), size);
            CHECK.due("ticks with something on the link", x.count(4), 2 * size);
        }
    }

    @Sentence(under = "III", words = ONE_GOES)
    static void oneGoesTheSameHoweverTheTicksAreCut() {
        LinkShaper x = Shapers.wideClass();
        Shapers.arriveTimes(x, 3, 0, 64);
        for (int tick = 0; tick < 192; tick++) {
            CHECK.due("began in tick " + tick, x.run(1), tick % 64 == 0 ? 1 : 0);
        }
        CHECK.due("began after them", x.run(1000), 0);
    }

    @Sentence(under = "III", words = ONE_GOES)
    static void oneOnTheLinkIsNotBrokenOff() {
        LinkShaper x = Shapers.wide(1);
        Shapers.wideLeaf(x, 0, 1, 0);
        Shapers.wideLeaf(x, 0, 1, 1000);
        x.arrive(0, 1500);
        x.run(1);
        x.arrive(1, 64);
        CHECK.due("a due one while an excess one is on the link", x.run(1499), 0);
        CHECK.due("after it", x.run(1), 1);
        CHECK.due("the tick in which the due one began", x.packet(1, 3), 1500);
    }

    @Sentence(under = "III", words = ONE_GOES)
    static void oneGoesOnlyIfThereIsOne() {
        LinkShaper x = new LinkShaper();
        CHECK.due("without groups", x.run(100), 0);
        x.group(1, 1000, 1500);
        CHECK.due("without classes", x.run(100), 0);
        x.leaf(0, 1, 500, 1000, 1500, 1500);
        CHECK.due("without packets", x.run(100), 0);
        x.arrive(0, 64);
        CHECK.due("with one", x.run(100), 1);
        CHECK.due("after it", x.run(100), 0);
    }

    @Sentence(under = "III", words = START)
    static void startOnlyWithAGuaranteeAbove0() {
        LinkShaper x = Shapers.wide(1);
        Shapers.wideLeaf(x, 0, 1, 0);
        Shapers.wideLeaf(x, 0, 1, 10);
        x.arrive(0, 64);
        x.arrive(1, 64);
        x.run(128);
        CHECK.due("guarantee 0", Shapers.packet(x, 0), "0 64 0 64 2 -1 0");
        CHECK.due("guarantee 10", Shapers.packet(x, 1), "1 64 0 0 1 6400 0");
    }

    @Sentence(under = "III", words = START)
    static void startIsTheClockIfThatIsGreater() {
        LinkShaper x = clockAt3000();
        x.run(1499);
        x.arrive(0, 1500);
        CHECK.due("came in 2999, began there", x.run(1), 0);
        CHECK.due("began in 3000", x.run(1), 1);
        CHECK.due("packet 1", Shapers.packet(x, 1), "0 1500 2999 3000 1 6000 0");
    }

    @Sentence(under = "III", words = START)
    static void startIsBothIfTheyAreEqual() {
        LinkShaper x = clockAt3000();
        x.run(1500);
        x.arrive(0, 1500);
        x.run(1);
        CHECK.due("packet 1", Shapers.packet(x, 1), "0 1500 3000 3000 1 6000 0");
    }

    @Sentence(under = "III", words = START)
    static void startIsTheArrivalIfThatIsGreater() {
        LinkShaper x = clockAt3000();
        x.run(1501);
        x.arrive(0, 1500);
        x.run(1);
        CHECK.due("packet 1", Shapers.packet(x, 1), "0 1500 3001 3001 1 6001 0");
    }

    @Sentence(under = "III", words = START)
    static void startIsTheArrivalHoweverLongItWaits() {
        LinkShaper x = Shapers.wide(1);
        Shapers.wideLeaf(x, 0, 1, 0);
        Shapers.wideLeaf(x, 0, 1, 500);
        x.arrive(0, 1500);
        x.run(1);
        x.arrive(1, 100);
        x.run(1500);
        CHECK.due("came in 1, began in 1500", Shapers.packet(x, 1), "1 100 1 1500 1 201 0");
        CHECK.due("the clock is behind the tick", x.about(1, 6), 201);
    }

    @Sentence(under = "III", words = START)
    static void deadlineIsRoundedUp() {
        // Remainders of 1000 times the size by the guarantee: 0, 0, 0, 0, 1, the most, 1 of 64000, and half.
        int[][] rows = {{64, 10, 6400}, {1500, 10, 150000}, {64, 1000, 64}, {1500, 1000, 1500},
            {64, 13, 4924}, {64, 41, 1561}, {64, 999, 65}, {75, 80, 938}};
        for (int[] row : rows) {
            LinkShaper x = Shapers.wide(1);
            Shapers.wideLeaf(x, 0, 1, row[1]);
            x.run(3);
            x.arrive(0, row[0]);
            x.run(1);
            CHECK.due("deadline of " + row[0] + " bytes by " + row[1], x.packet(0, 5), 3 + row[2]);
        }
    }

    @Sentence(under = "III", words = DUE)
    static void dueInTheTickOfItsStart() {
        LinkShaper x = Shapers.wide(1);
        Shapers.wideLeaf(x, 0, 1, 500);
        x.arrive(0, 100);
        x.run(199);
        x.arrive(0, 100);
        x.run(1);
        CHECK.due("a tick ahead of its start", Shapers.packet(x, 1), "0 100 199 199 2 -1 0");

        LinkShaper y = Shapers.wide(1);
        Shapers.wideLeaf(y, 0, 1, 500);
        y.arrive(0, 100);
        y.run(200);
        y.arrive(0, 100);
        y.run(1);
        CHECK.due("in its start", Shapers.packet(y, 1), "0 100 200 200 1 400 0");
    }

    @Sentence(under = "III", words = DUE)
    static void dueInTheMiddleOfALongRun() {
        LinkShaper x = Shapers.wide(1);
        x.leaf(0, 1, 10, 10, 1500, 60000);
        Shapers.arriveTimes(x, 2, 0, 1500);
        CHECK.due("run(100000)", x.run(100000), 1);
        CHECK.due("run(100000)", x.run(100000), 1);
        CHECK.due("packet 1", Shapers.packet(x, 1), "0 1500 0 150000 1 300000 0");
        CHECK.due("in how many ticks it was held", x.about(0, 7), 148500);
    }

    /** Class 1 takes 64 bytes of the group's tokens, so that those for class 0 would be there in 15640 only. */
    @Sentence(under = "III", words = DUE)
    static void dueInTheMiddleOfALongRunBeforeTheTokensAreThere() {
        LinkShaper x = new LinkShaper();
        x.group(1, 100, 1500);
        Shapers.wideLeaf(x, 0, 1, 100);
        Shapers.wideLeaf(x, 0, 1, 0);
        Shapers.arriveTimes(x, 2, 0, 1500);
        x.arrive(1, 64);
        CHECK.due("run(20000)", x.run(20000), 3);
        CHECK.due("packet 2", Shapers.packet(x, 2), "1 64 0 1500 2 -1 0");
        CHECK.due("packet 1", Shapers.packet(x, 1), "0 1500 0 15000 1 30000 0");
    }

    @Sentence(under = "III", words = DUE)
    static void dueOfTheLeastDeadline() {
        LinkShaper x = Shapers.wide(1);
        Shapers.wideLeaf(x, 0, 1, 100);
        Shapers.wideLeaf(x, 0, 1, 500);
        Shapers.wideLeaf(x, 0, 1, 200);
        x.arrive(0, 100);
        x.arrive(1, 100);
        x.arrive(2, 64);
        x.run(300);
        sentIs(x, "by deadlines 1000, 200, 320", "1 2 0");
    }

    @Sentence(under = "III", words = DUE)
    static void dueOfADeadlineATickLess() {
        LinkShaper x = Shapers.wide(1);
        Shapers.wideLeaf(x, 0, 1, 100);
        Shapers.wideLeaf(x, 0, 1, 100);
        Shapers.wideLeaf(x, 0, 1, 0);
        x.arrive(2, 64);
        x.run(1);
        x.arrive(1, 100);
        x.run(1);
        x.arrive(0, 100);
        x.run(200);
        sentIs(x, "by deadlines 1001 of class 1, 1002 of class 0", "0 1 2");
    }

    @Sentence(under = "III", words = DUE)
    static void dueOfSeveralLeastDeadlinesTheClassOfTheLeastNumber() {
        LinkShaper x = Shapers.wide(2);
        Shapers.wideLeaf(x, 1, 1, 200);
        Shapers.wideLeaf(x, 0, 12, 200);
        Shapers.wideLeaf(x, 0, 12, 200);
        x.arrive(2, 100);
        x.arrive(1, 100);
        x.arrive(0, 100);
        x.run(300);
        sentIs(x, "whatever group, weight and order of coming", "2 1 0");
    }

    @Sentence(under = "III", words = DUE)
    static void dueThoughAnotherOfALesserDeadlineHasItsStartBehindThisTick() {
        LinkShaper x = clockAt3000();
        Shapers.wideLeaf(x, 0, 1, 10);
        x.arrive(0, 64);
        x.arrive(1, 1500);
        x.run(1);
        sentIs(x, "by deadlines 3128 from 3000 on, 151500 from 1500 on", "0 2");
    }

    @Sentence(under = "III", words = DUE)
    static void dueWhateverTheCeilings() {
        LinkShaper x = new LinkShaper();
        x.group(1, 500, 1500);
        x.leaf(0, 1, 500, 500, 1500, 60000);
        x.leaf(0, 1, 0, 1000, 20000, 60000);
        x.arrive(1, 1500);
        x.run(1500);
        CHECK.due("the group's tokens", x.tokens(0, 1), 750000);
        x.arrive(0, 1500);
        CHECK.due("a due one of 1500000", x.run(1), 1);
        CHECK.due("sent as due", x.packet(1, 4), 1);
    }

    @Sentence(under = "III", words = CLOCK)
    static void clockBecomesTheDeadline() {
        LinkShaper x = Shapers.wide(1);
        Shapers.wideLeaf(x, 0, 1, 300);
        x.run(7);
        x.arrive(0, 100);
        CHECK.due("ahead of the tick", x.about(0, 6), 0);
        x.run(1);
        CHECK.due("after it: 7 and 100000 by 300", x.about(0, 6), 341);
        x.run(1000);
        x.arrive(0, 100);
        x.run(1);
        CHECK.due("1008 and as much", x.about(0, 6), 1342);
    }

    @Sentence(under = "III", words = CLOCK)
    static void clockStaysWhenOneGoesAsExcess() {
        LinkShaper x = Shapers.wide(1);
        Shapers.wideLeaf(x, 0, 1, 100);
        x.arrive(0, 100);
        x.arrive(0, 200);
        x.run(300);
        CHECK.due("the second goes as excess", x.packet(1, 4), 2);
        CHECK.due("the clock is the first one's deadline", x.about(0, 6), 1000);
    }

    @Sentence(under = "III", words = CLOCK_AT_FIRST)
    static void clocksAre0AtFirst() {
        LinkShaper x = new LinkShaper();
        x.run(500);
        x.group(1, 1000, 1500);
        x.leaf(0, 1, 500, 500, 1500, 1500);
        CHECK.due("a class of tick 500", x.about(0, 6), 0);
        x.arrive(0, 64);
        x.run(1);
        CHECK.due("so the first one's start is when it came", x.packet(0, 5), 628);
    }

    @Sentence(under = "III", words = EXCESS)
    static void excessOnlyIfNoneIsDue() {
        LinkShaper x = Shapers.wide(2);
        Shapers.wideLeaf(x, 0, 12, 0);
        Shapers.wideLeaf(x, 1, 1, 10);
        x.arrive(0, 64);
        x.arrive(1, 1500);
        x.run(1501);
        sentIs(x, "the due one first", "1 0");
    }

    /** A bucket of burst 1500 and rate 1 that has no tokens in tick 0: it has 64 bytes in tick 64000. */
    private static void goesInTick64000(LinkShaper x, String told) {
        x.arrive(0, 1500);
        x.arrive(0, 64);
        CHECK.due(told + ", began up to tick 63998", x.run(63999), 1);
        CHECK.due(told + ", a thousandth short", x.run(1), 0);
        CHECK.due(told + ", held", x.about(0, 7), 64000 - 1500);
        CHECK.due(told + ", just enough", x.run(1), 1);
        CHECK.due(told + ", held", x.about(0, 7), 64000 - 1500);
        CHECK.due(told + ", the packet", Shapers.packet(x, 1), "0 64 0 64000 2 -1 0");
    }

    @Sentence(under = "III", words = EXCESS)
    static void excessWithJustEnoughTokensOfTheClass() {
        goesInTick64000(Shapers.slowClass(1), "class of rate 1");
    }

    @Sentence(under = "III", words = EXCESS)
    static void excessWithJustEnoughTokensOfTheGroup() {
        goesInTick64000(Shapers.slowGroup(1), "group of rate 1");
    }

    @Sentence(under = "III", words = EXCESS)
    static void excessWithJustEnoughTokensInTheMiddleOfALongRun() {
        for (LinkShaper x : new LinkShaper[] {Shapers.slowClass(1), Shapers.slowGroup(1)}) {
            x.arrive(0, 1500);
            x.arrive(0, 64);
            CHECK.due("run(100000)", x.run(100000), 2);
            CHECK.due("the packet", Shapers.packet(x, 1), "0 64 0 64000 2 -1 0");
        }
    }

    @Sentence(under = "III", words = EXCESS)
    static void excessWithAFullBucketJustEnoughForTheGreatestPacket() {
        LinkShaper x = new LinkShaper();
        x.group(1, 0, 1500);
        x.leaf(0, 1, 0, 0, 1500, 60000);
        x.arrive(0, 1500);
        x.arrive(0, 64);
        CHECK.due("run(1)", x.run(1), 1);
        CHECK.due("a ceiling of 0 lets no more go", x.run(100000), 0);
        CHECK.due("held for ever", x.about(0, 7), 100001 - 1500);
    }

    @Sentence(under = "III", words = EXCESS)
    static void excessWhenTheLaterOfBothBucketsHasEnough() {
        int[][] rates = {{7, 300}, {300, 7}};
        for (int[] row : rates) {
            LinkShaper x = new LinkShaper();
            x.group(1, row[0], 1500);
            x.leaf(0, 1, 0, row[1], 1500, 60000);
            x.arrive(0, 1500);
            x.arrive(0, 100);
            x.run(100000);
            CHECK.due("100000 by 7, rounded up", x.packet(1, 3), 14286);
        }
    }

    /** One bucket has 64 bytes for ever, the other gets a thousandth with each tick. */
    @Sentence(under = "III", words = EXCESS)
    static void excessWhenOneBucketHasJustEnoughAndTheOtherGetsIt() {
        int[][] buckets = {{1, 1500, 0, 1564}, {0, 1564, 1, 1500}};
        for (int[] row : buckets) {
            LinkShaper x = new LinkShaper();
            x.group(1, row[0], row[1]);
            x.leaf(0, 1, 0, row[2], row[3], 60000);
            x.arrive(0, 1500);
            x.arrive(0, 64);
            x.run(100000);
            CHECK.due("the packet", Shapers.packet(x, 1), "0 64 0 64000 2 -1 0");
        }
    }

    @Sentence(under = "III", words = EXCESS)
    static void excessOfFirstPacketsOnly() {
        LinkShaper x = Shapers.slowClass(0);
        x.arrive(0, 1000);
        x.run(1000);
        x.arrive(0, 501);
        x.arrive(0, 64);
        CHECK.due("the second one would have tokens", x.run(10000), 0);
    }

    @Sentence(under = "III", words = EXCESS)
    static void excessThoughAnotherIsHeld() {
        LinkShaper x = Shapers.wide(2);
        x.leaf(0, 12, 0, 0, 1500, 60000);
        Shapers.wideLeaf(x, 0, 1, 0);
        Shapers.wideLeaf(x, 1, 1, 0);
        x.arrive(0, 1500);
        x.run(1500);
        x.arrive(0, 64);
        x.arrive(1, 1500);
        x.arrive(2, 1500);
        CHECK.due("run(3000)", x.run(3000), 2);
        sentIs(x, "the others of its group and of another", "0 2 3");
        CHECK.due("it was held in the ticks in which they went", x.about(0, 7), 2);
    }

    @Sentence(under = "III", words = EXCESS)
    static void excessThoughAWholeGroupIsHeld() {
        LinkShaper x = Shapers.slowGroup(0);
        x.group(1, 1000, 20000);
        Shapers.wideLeaf(x, 1, 1, 0);
        x.arrive(0, 1500);
        x.run(1500);
        x.arrive(0, 64);
        x.arrive(1, 1500);
        x.run(1500);
        sentIs(x, "the other group's", "0 2");
    }

    @Sentence(under = "III", words = TAG)
    static void tagInTheClassByEachWeight() {
        for (int weight = 1; weight <= 12; weight++) {
            LinkShaper x = Shapers.wide(1);
            Shapers.wideLeaf(x, 0, weight, 0);
            x.arrive(0, 1499);
            x.arrive(0, 64);
            x.run(1);
            CHECK.due("by weight " + weight, x.tag(0, 0), SCALE / weight * 1499);
            x.run(1499);
            CHECK.due("the next is added", x.tag(0, 0), SCALE / weight * 1563);
            CHECK.due("whatever its weight, its group's SUM", x.tag(0, 1), SCALE * 1563);
        }
    }

    @Sentence(under = "III", words = TAG)
    static void tagInTheGroupByEachWeight() {
        for (int weight = 1; weight <= 12; weight++) {
            LinkShaper x = new LinkShaper();
            x.group(weight, 1000, 20000);
            Shapers.wideLeaf(x, 0, 1, 0);
            x.arrive(0, 1499);
            x.arrive(0, 64);
            x.run(1);
            CHECK.due("by weight " + weight, x.tag(0, 1), SCALE / weight * 1499);
            x.run(1499);
            CHECK.due("the next is added", x.tag(0, 1), SCALE / weight * 1563);
            CHECK.due("whatever its weight, the class's SUM", x.tag(0, 0), SCALE * 1563);
        }
    }

    @Sentence(under = "III", words = LEAST_TAG)
    static void leastTagInTheClassShares() {
        LinkShaper x = Shapers.wide(1);
        Shapers.wideLeaf(x, 0, 1, 0);
        Shapers.wideLeaf(x, 0, 3, 0);
        for (int i = 0; i < 4; i++) {
            x.arrive(0, 100);
            x.arrive(1, 100);
        }
        x.run(800);
        // Tags in class, by hundreds of 27720: class 0 1, 2, 3, 4; class 1 1/3, 2/3, 1, 4/3.
        sentIs(x, "one to three", "1 3 0 5 7 2 4 6");
    }

    @Sentence(under = "III", words = LEAST_TAG)
    static void leastTagInTheClassByOneByte() {
        LinkShaper x = Shapers.wide(1);
        Shapers.wideLeaf(x, 0, 1, 0);
        Shapers.wideLeaf(x, 0, 1, 0);
        x.arrive(0, 101);
        x.arrive(1, 100);
        x.run(1);
        sentIs(x, "a byte less", "1");
    }

    @Sentence(under = "III", words = LEAST_TAG)
    static void ofSeveralLeastTagsTheClassOfTheLeastNumber() {
        LinkShaper x = Shapers.wide(1);
        Shapers.wideLeaf(x, 0, 1, 0);
        Shapers.wideLeaf(x, 0, 2, 0);
        Shapers.wideLeaf(x, 0, 3, 0);
        x.arrive(2, 300);
        x.arrive(1, 200);
        x.arrive(0, 100);
        x.run(600);
        sentIs(x, "all of the tag 100", "2 1 0");
    }

    @Sentence(under = "III", words = LEAST_TAG)
    static void leastTagInTheGroupShares() {
        LinkShaper x = new LinkShaper();
        x.group(2, 1000, 20000);
        x.group(4, 1000, 20000);
        Shapers.wideLeaf(x, 0, 12, 0);
        Shapers.wideLeaf(x, 1, 1, 0);
        for (int i = 0; i < 4; i++) {
            x.arrive(0, 100);
            x.arrive(1, 100);
        }
        x.run(501);
        // Tags in group, by hundreds of 27720: group 0 1/2, 1, ..; group 1 1/4, 1/2, 3/4, 1.
        sentIs(x, "two to four, whatever the classes' weights", "1 0 3 5 2 7");
    }

    @Sentence(under = "III", words = LEAST_TAG)
    static void leastTagInTheGroupByOneByte() {
        LinkShaper x = Shapers.wide(2);
        Shapers.wideLeaf(x, 0, 12, 0);
        Shapers.wideLeaf(x, 1, 1, 0);
        x.arrive(0, 101);
        x.arrive(1, 100);
        x.run(1);
        sentIs(x, "a byte less", "1");
    }

    @Sentence(under = "III", words = LEAST_TAG)
    static void ofSeveralLeastTagsTheGroupOfTheLeastNumber() {
        LinkShaper x = Shapers.wide(3);
        Shapers.wideLeaf(x, 2, 1, 0);
        Shapers.wideLeaf(x, 1, 1, 0);
        Shapers.wideLeaf(x, 0, 1, 0);
        x.arrive(0, 100);
        x.arrive(1, 100);
        x.arrive(2, 100);
        x.run(300);
        sentIs(x, "whatever the classes' numbers", "2 1 0");
    }

    @Sentence(under = "III", words = LEAST_TAG)
    static void leastTagInTheClassStandsForItsGroup() {
        LinkShaper x = Shapers.wide(2);
        Shapers.wideLeaf(x, 0, 12, 0);
        Shapers.wideLeaf(x, 0, 1, 0);
        Shapers.wideLeaf(x, 1, 1, 0);
        x.arrive(0, 1000);
        x.arrive(1, 90);
        x.arrive(2, 500);
        x.run(501);
        // Class 0's tag 1000/12 is below class 1's 90, so that the group stands with 1000 bytes against 500.
        sentIs(x, "the other group's, then the one that stands for its group", "2 0");
    }

    @Sentence(under = "III", words = SUMS)
    static void sumsAndMarksBecomeTheTags() {
        LinkShaper x = Shapers.wide(2);
        Shapers.wideLeaf(x, 0, 1, 0);
        Shapers.wideLeaf(x, 1, 1, 0);
        x.arrive(0, 100);
        x.arrive(1, 200);
        tagsAre(x, 0, 0, "ahead of the tick", 0, 0, 0, 0);
        x.run(1);
        tagsAre(x, 0, 0, "of the first one", 100, 100, 100, 100);
        tagsAre(x, 1, 1, "of the other", 0, 0, 0, 100);
        x.run(100);
        tagsAre(x, 0, 0, "of the first one", 100, 100, 100, 200);
        tagsAre(x, 1, 1, "of the other", 200, 200, 200, 200);
    }

    @Sentence(under = "III", words = SUMS)
    static void sumsStayWhenOneGoesAsDue() {
        LinkShaper x = Shapers.wide(1);
        Shapers.wideLeaf(x, 0, 1, 1000);
        x.arrive(0, 100);
        x.run(100);
        CHECK.due("sent as due", x.packet(0, 4), 1);
        tagsAre(x, 0, 0, "after it", 0, 0, 0, 0);
    }

    /** Packet 1 is held until tick 6400, while the others' tags go by. */
    private static void lateSmallOne(LinkShaper x) {
        x.arrive(0, 1500);
        x.run(1500);
        x.arrive(0, 64);
        x.arrive(1, 1500);
        x.arrive(1, 1500);
        x.run(10000);
        CHECK.due("the small one began", x.packet(1, 3), 6400);
    }

    @Sentence(under = "III", words = SUMS)
    static void marksStayIfTheyWereNotLess() {
        LinkShaper x = Shapers.slowClass(10);
        Shapers.wideLeaf(x, 0, 1, 0);
        lateSmallOne(x);
        tagsAre(x, 0, 0, "after a class's late one", 1564, 4564, 4500, 4564);

        LinkShaper y = Shapers.slowGroup(10);
        y.group(1, 1000, 20000);
        Shapers.wideLeaf(y, 1, 1, 0);
        lateSmallOne(y);
        tagsAre(y, 0, 0, "after a group's late one", 1564, 1564, 1564, 4500);
    }

    @Sentence(under = "III", words = SUMS_AT_FIRST)
    static void sumsAndMarksAre0AtFirst() {
        LinkShaper x = Shapers.wideClass();
        tagsAre(x, 0, 0, "at first", 0, 0, 0, 0);
        x.arrive(0, 100);
        x.run(100);
        x.group(1, 1000, 20000);
        Shapers.wideLeaf(x, 0, 1, 0);
        Shapers.wideLeaf(x, 1, 1, 0);
        tagsAre(x, 1, 1, "of a late class and a late group", 0, 0, 0, 100);
        tagsAre(x, 2, 0, "of a late class and its group", 0, 100, 100, 100);
    }

    @Sentence(under = "III", words = COMES)
    static void comesToAClassInWhichNothingWaits() {
        LinkShaper x = Shapers.wideClass();
        Shapers.wideLeaf(x, 0, 1, 0);
        Shapers.arriveTimes(x, 3, 0, 100);
        x.run(101);
        tagsAre(x, 1, 0, "while nothing came", 0, 200, 200, 200);
        x.arrive(1, 100);
        tagsAre(x, 1, 0, "as one comes", 200, 200, 200, 200);
    }

    @Sentence(under = "III", words = COMES)
    static void comesToAClassInWhichSomethingWaits() {
        LinkShaper x = Shapers.slowClass(0);
        Shapers.wideLeaf(x, 0, 1, 0);
        x.arrive(0, 1500);
        x.run(1500);
        x.arrive(0, 64);
        Shapers.arriveTimes(x, 2, 1, 1500);
        x.run(3000);
        x.arrive(0, 64);
        tagsAre(x, 0, 0, "the SUM stays", 1500, 4500, 4500, 4500);
    }

    /** Class 0's second packet waits for its start in 3000, while class 1's goes by as excess; then it is on the link. */
    private static void secondOneOnTheLink(LinkShaper x) {
        x.arrive(0, 1500);
        x.arrive(1, 300);
        x.run(1501);
        CHECK.due("on the link", x.count(5), 1);
        CHECK.due("sent as due", x.packet(1, 4), 1);
        CHECK.due("nothing waits", x.about(0, 0) + x.about(1, 0), 0);
    }

    @Sentence(under = "III", words = COMES)
    static void comesToAClassWhoseOnlyOneIsOnTheLink() {
        LinkShaper x = clockAt3000();
        Shapers.wideLeaf(x, 0, 1, 0);
        secondOneOnTheLink(x);
        tagsAre(x, 0, 0, "while it is on the link", 0, 300, 300, 300);
        x.arrive(0, 64);
        tagsAre(x, 0, 0, "as the next comes", 300, 300, 300, 300);
    }

    @Sentence(under = "III", words = COMES)
    static void comesToAGroupWhoseOnlyOneIsOnTheLink() {
        LinkShaper x = clockAt3000();
        x.group(1, 1000, 20000);
        Shapers.wideLeaf(x, 1, 1, 0);
        secondOneOnTheLink(x);
        tagsAre(x, 0, 0, "while it is on the link", 0, 0, 0, 300);
        x.arrive(0, 64);
        tagsAre(x, 0, 0, "as the next comes", 0, 300, 0, 300);
    }

    @Sentence(under = "III", words = COMES)
    static void comesToAGroupInWhichNothingWaits() {
        LinkShaper x = Shapers.wide(2);
        Shapers.wideLeaf(x, 0, 1, 0);
        Shapers.wideLeaf(x, 1, 1, 0);
        x.arrive(0, 500);
        x.run(1);
        tagsAre(x, 1, 1, "while nothing came", 0, 0, 0, 500);
        x.arrive(1, 1000);
        tagsAre(x, 1, 1, "as one comes", 0, 500, 0, 500);
        tagsAre(x, 0, 0, "of the other group", 500, 500, 500, 500);
    }

    @Sentence(under = "III", words = COMES)
    static void comesToAGroupInWhichAnotherClassWaits() {
        LinkShaper x = Shapers.slowGroup(0);
        Shapers.wideLeaf(x, 0, 1, 0);
        x.group(1, 1000, 20000);
        Shapers.wideLeaf(x, 1, 1, 0);
        x.arrive(0, 1500);
        x.run(1500);
        x.arrive(0, 64);
        x.arrive(2, 700);
        x.arrive(2, 700);
        x.run(1400);
        tagsAre(x, 1, 0, "ahead of it", 0, 1500, 1500, 2900);
        x.arrive(1, 64);
        tagsAre(x, 1, 0, "the group's SUM stays", 1500, 1500, 1500, 2900);
    }

    /** The document's "comes to a class" is read here as: comes to wait in it. */
    @Sentence(under = "III", words = COMES)
    static void comesButIsRefused() {
        LinkShaper x = Shapers.wide(2);
        Shapers.wideLeaf(x, 0, 1, 0);
        Shapers.wideLeaf(x, 0, 1, 0);
        Shapers.wideLeaf(x, 1, 1, 0);
        x.arrive(0, 500);
        x.run(500);
        x.police(1, 0, 0, false);
        x.police(2, 0, 0, false);
        CHECK.due("refused by the policer", x.arrive(1, 64), -2);
        tagsAre(x, 1, 0, "of the class", 0, 500, 500, 500);
        CHECK.due("refused by the policer", x.arrive(2, 64), -2);
        tagsAre(x, 2, 1, "of the other group", 0, 0, 0, 500);
    }

    @Sentence(under = "III", words = TAKEN)
    static void tokensAreLessByWhatGoesAsExcess() {
        LinkShaper x = Shapers.wideClass();
        x.arrive(0, 1500);
        x.run(1);
        CHECK.due("sent as excess", x.packet(0, 4), 2);
        CHECK.due("the class's", x.tokens(0, 0), 20000000 - 1500000 + 1000);
        CHECK.due("the group's", x.tokens(0, 1), 20000000 - 1500000 + 1000);
    }

    @Sentence(under = "III", words = TAKEN)
    static void tokensAreLessByWhatGoesAsDue() {
        LinkShaper x = Shapers.wide(1);
        Shapers.wideLeaf(x, 0, 1, 500);
        x.arrive(0, 1500);
        x.run(1);
        CHECK.due("sent as due", x.packet(0, 4), 1);
        CHECK.due("the class's", x.tokens(0, 0), 20000000 - 1500000 + 1000);
        CHECK.due("the group's", x.tokens(0, 1), 20000000 - 1500000 + 1000);
    }

    @Sentence(under = "III", words = TAKEN)
    static void tokensOfTheClassBelow0ByADueOne() {
        LinkShaper x = Shapers.wide(1);
        x.leaf(0, 1, 100, 100, 1500, 60000);
        x.arrive(0, 1500);
        x.run(1500);
        x.arrive(0, 64);
        x.run(64);
        CHECK.due("sent as excess, in 1500", Shapers.packet(x, 1), "0 64 1500 1500 2 -1 0");
        x.arrive(0, 1500);
        x.run(15000 - 1564);
        CHECK.due("ahead of its start", x.tokens(0, 0), 1436000);
        CHECK.due("as due", x.run(1), 1);
        CHECK.due("below 0", x.tokens(0, 0), -64000 + 100);
        x.run(639);
        CHECK.due("tokens come as ever", x.tokens(0, 0), 0);
        x.run(1);
        CHECK.due("tokens come as ever", x.tokens(0, 0), 100);
    }

    @Sentence(under = "III", words = TAKEN)
    static void tokensOfTheGroupBelow0ByADueOne() {
        LinkShaper x = new LinkShaper();
        x.group(1, 500, 1500);
        x.leaf(0, 1, 500, 500, 1500, 60000);
        Shapers.wideLeaf(x, 0, 1, 0);
        x.arrive(1, 1500);
        x.run(1500);
        x.arrive(0, 1500);
        x.run(1);
        CHECK.due("the group's, below 0", x.tokens(0, 1), -749500);
        CHECK.due("the class's", x.tokens(0, 0), 500);
        x.run(1499);
        CHECK.due("tokens come as ever", x.tokens(0, 1), 0);
        x.arrive(1, 64);
        CHECK.due("an excess one is held until 64000 are there", x.run(128), 0);
        CHECK.due("then it goes", x.run(1), 1);
        CHECK.due("the group's after it", x.tokens(0, 1), 500);
    }

    @Sentence(under = "III", words = TAKEN)
    static void tokensOfOtherClassesAndGroupsStay() {
        LinkShaper x = Shapers.slowClass(0);
        x.leaf(0, 1, 0, 0, 1500, 60000);
        x.group(1, 0, 1500);
        x.arrive(0, 64);
        x.run(1);
        CHECK.due("its own class's", x.tokens(0, 0), 1436000);
        CHECK.due("another class's", x.tokens(1, 0), 1500000);
        CHECK.due("another group's", x.tokens(1, 1), 1500000);
    }

    @Sentence(under = "III", words = CONSTANTS)
    static void noneIsMinus1() {
        CHECK.due("NONE", NONE, -1);
    }
}
