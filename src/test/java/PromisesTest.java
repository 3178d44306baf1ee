import java.util.Arrays;
import java.util.function.Consumer;

/** Promises 1 to 13, sentence by sentence: ordinary inputs, the edges that they name, wrong inputs. */
public final class PromisesTest {
    private static final int NONE = Shapers.NONE;
    private static final int LOW = Shapers.LOW;
    private static final int HIGH = Shapers.HIGH;

    private static final String CALLS_512 = "An object is used for at most 512 calls after it has been made; "
            + "what later calls answer is free.";
    private static final String NEW = "TICK 0, no groups, no classes, nothing sent.";
    private static final String GROUP = "A group more: its number.";
    private static final String NO_GROUP = "NONE, and none comes, if something is not as I tells.";
    private static final String WHILE_WAITING = "(Also while packets wait.)";
    private static final String LEAF = "A class more of a group: its number.";
    private static final String NO_LEAF = "NONE likewise, or without such a group.";
    private static final String POLICE =
            "A class has this POLICER, with all its TOKENS, in the place of one that it had: true;";
    private static final String NO_POLICE =
            "false, and nothing happens, without such a class, or if something is not as I tells.";
    private static final String ARRIVE = "A packet comes to a class in this TICK, ahead of what begins in it: "
            + "its number (of those that wait or were sent, from 0 on);";
    private static final String REFUSED = "-2 refused by the POLICER, -3 by the LIMIT;";
    private static final String NO_ARRIVAL =
            "NONE, and nothing happens, without such a class or size, or if there are 1000 packets.";
    private static final String RUN = "So many TICKS (1 to 100000) go by: how many packets began in them;";
    private static final String NO_RUN =
            "NONE, and nothing happens, for others, or if the TICK would be above 1000000000.";
    private static final String NOW = "The TICK that is next.";
    private static final String PACKET = "Of packet k, what 0: its class, 1: size, 2: TICK in which it came, "
            + "3: in which it began (NONE if it waits), 4: 0 it waits, 1 sent as DUE, 2 as EXCESS, "
            + "5: its DEADLINE if sent as DUE (NONE otherwise), 6: 1 if it is marked, else 0.";
    private static final String NO_FIGURE = "NONE without it, or for another what.";
    private static final String SENT = "The number of the i-th packet that began; NONE.";
    private static final String ABOUT = "Of a class, what 0: packets that wait, 1: bytes that wait, "
            + "2: bytes begun as DUE, 3: as EXCESS, 4: packets refused by the POLICER, 5: by the LIMIT, 6: its CLOCK, "
            + "7: in how many TICKS its first packet was HELD (nothing being on the link, and none DUE).";
    private static final String TOKENS = "TOKENS as they are ahead of the TICK that is next, "
            + "what 0: of a class's CEILING, 1: of a group's, 2: of a class's POLICER (0 without).";
    private static final String TAG = "SUMS and MARKS, what 0: a class's SUM, 1: a group's SUM, 2: a group's MARK, "
            + "3: the link's (k of no matter).";
    private static final String NO_SUCH = "0 without such.";
    private static final String COUNT = "What 0: groups, 1: classes, 2: packets that came to wait, 3: that began, "
            + "4: TICKS in which something was on the link, "
            + "5: number of the packet that is on the link at the begin of the TICK that is next (NONE: none).";
    private static final String NO_COUNT = "NONE for another what.";

    private static final Check CHECK = new Check("PromisesTest");

    public static void main(String[] args) throws Exception {
        Sentences.run(PromisesTest.class, CHECK);
    }

    /** Classes with 700 guaranteed, two policers, packets that are on the link, wait, are marked, are refused. */
    private static LinkShaper inUse() {
        LinkShaper x = new LinkShaper();
        x.group(3, 700, 3000);
        x.group(2, 300, 1500);
        x.leaf(0, 2, 500, 600, 2000, 3000);
        x.leaf(0, 3, 0, 400, 2000, 3000);
        x.leaf(1, 1, 200, 300, 1500, 3000);
        x.police(0, 100, 1000, true);
        x.police(2, 0, 1500, false);
        for (int leaf = 0; leaf < 3; leaf++) {
            Shapers.arriveTimes(x, 5, leaf, 700);
        }
        x.run(2300);
        return x;
    }

    /** What is hidden in the object (room for guarantees, policers, queues) shows in this. */
    private static void goOn(LinkShaper x) {
        Shapers.wideLeaf(x, 0, 1, 210);
        Shapers.wideLeaf(x, 1, 1, 110);
        Shapers.wideLeaf(x, 0, 1, 200);
        Shapers.wideLeaf(x, 1, 1, 100);
        x.group(1, 1000, 1500);
        for (int leaf = 0; leaf < 5; leaf++) {
            Shapers.arriveTimes(x, 3, leaf, 400);
        }
        x.run(5000);
        Shapers.arriveTimes(x, 2, 0, 64);
        x.run(50000);
    }

    /** An object with these calls and its twin without them tell the same, now and later. */
    private static void nothingHappens(String told, Consumer<LinkShaper> wrongCalls) {
        LinkShaper x = inUse();
        LinkShaper twin = inUse();
        wrongCalls.accept(x);
        CHECK.due(told + ": all that it tells", Snapshot.of(x), Snapshot.of(twin));
        goOn(x);
        goOn(twin);
        CHECK.due(told + ": all that it tells later", Snapshot.of(x), Snapshot.of(twin));
    }

    @Sentence(under = "What it is", words = CALLS_512)
    static void the512thCallIsAnswered() {
        LinkShaper x = Shapers.wideClass();
        for (int i = 0; i < 510; i++) {
            CHECK.due("arrive(0, 64), call " + (i + 3), x.arrive(0, 64), i);
        }

        LinkShaper y = Shapers.slowClass(0);
        y.arrive(0, 1500);
        y.arrive(0, 64);
        for (int i = 0; i < 507; i++) {
            y.run(100000);
        }
        CHECK.due("about(0, 7), call 512", y.about(0, 7), 507 * 100000 - 1500);
    }

    @Sentence(under = "Promise 1", words = NEW)
    static void newObjectTellsNothing() {
        LinkShaper x = new LinkShaper();
        CHECK.due("now()", x.now(), 0);
        CHECK.due("count(0) to count(5)", Shapers.count(x), "0 0 0 0 0 -1");
        CHECK.due("sent(0)", x.sent(0), NONE);
        CHECK.due("packet(0, ..)", Shapers.packet(x, 0), "-1 -1 -1 -1 -1 -1 -1");
        CHECK.due("about(0, ..)", Shapers.about(x, 0), "-1 -1 -1 -1 -1 -1 -1 -1");
        for (int what = 0; what <= 3; what++) {
            CHECK.due("tokens(0, " + what + ")", x.tokens(0, what), 0);
            CHECK.due("tag(0, " + what + ")", x.tag(0, what), 0);
        }
    }

    @Sentence(under = "Promise 1", words = NEW)
    static void newObjectTakesNoClassNoPolicerNoPacket() {
        LinkShaper x = new LinkShaper();
        CHECK.due("leaf(0, ..)", x.leaf(0, 1, 0, 1000, 1500, 1500), NONE);
        CHECK.due("police(0, ..)", x.police(0, 0, 0, true), false);
        CHECK.due("arrive(0, 64)", x.arrive(0, 64), NONE);
        CHECK.due("run(100000)", x.run(100000), 0);
        CHECK.due("count(0) to count(5)", Shapers.count(x), "0 0 0 0 0 -1");
    }

    @Sentence(under = "Promise 1", words = NEW)
    static void newObjectKnowsNothingOfAnother() {
        String before = Snapshot.of(new LinkShaper());
        LinkShaper used = inUse();
        CHECK.due("a new one beside it", Snapshot.of(new LinkShaper()), before);
        CHECK.due("the used one's tick", used.now(), 2300);
    }

    @Sentence(under = "Promise 2", words = GROUP)
    static void groupNumbersGoUpFrom0() {
        LinkShaper x = new LinkShaper();
        for (int i = 0; i < 4; i++) {
            CHECK.due("group " + i, x.group(1 + i, 100 * i, 1500 + i), i);
            CHECK.due("count(0)", x.count(0), i + 1);
            CHECK.due("tokens(" + i + ", 1)", x.tokens(i, 1), 1500000 + 1000 * i);
        }
    }

    @Sentence(under = "Promise 2", words = NO_GROUP)
    static void noGroupComesOfWrongOnes() {
        int[][] wrong = {{0, 500, 1500}, {13, 500, 1500}, {1, -1, 1500}, {1, 1001, 1500}, {1, 500, 1499}, {1, 500, 20001},
            {LOW, LOW, LOW}, {HIGH, HIGH, HIGH}};
        nothingHappens("wrong groups", x -> {
            for (int[] row : wrong) {
                CHECK.due("group" + Arrays.toString(row), x.group(row[0], row[1], row[2]), NONE);
            }
        });
    }

    @Sentence(under = "Promise 2", words = NO_GROUP)
    static void noGroupComesAboveFour() {
        LinkShaper x = Shapers.wide(3);
        CHECK.due("a wrong one", x.group(0, 1000, 1500), NONE);
        CHECK.due("a fourth has the next number", x.group(1, 1000, 1500), 3);
        String before = Snapshot.of(x);
        CHECK.due("a fifth", x.group(1, 1000, 1500), NONE);
        CHECK.due("all that it tells", Snapshot.of(x), before);
    }

    @Sentence(under = "Promise 2", words = WHILE_WAITING)
    static void groupAlsoWhilePacketsWait() {
        LinkShaper x = Shapers.wideClass();
        Shapers.arriveTimes(x, 2, 0, 1500);
        CHECK.due("while packets wait", x.group(2, 1000, 2000), 1);
        x.run(10);
        CHECK.due("while one is on the link too", x.group(2, 1000, 2000), 2);
        CHECK.due("a class of it", Shapers.wideLeaf(x, 1, 2, 0), 1);
        CHECK.due("a packet of that", x.arrive(1, 100), 2);
        CHECK.due("began", x.run(3200), 2);
    }

    @Sentence(under = "Promise 2", words = WHILE_WAITING)
    static void groupAlsoWhilePacketsWaitIfRight() {
        LinkShaper x = Shapers.wideClass();
        x.arrive(0, 1500);
        CHECK.due("a wrong one while packets wait", x.group(0, 1000, 2000), NONE);
        CHECK.due("count(0)", x.count(0), 1);
    }

    @Sentence(under = "Promise 3", words = LEAF)
    static void leafNumbersGoUpFrom0WhateverTheGroup() {
        LinkShaper x = Shapers.wide(2);
        int[] groups = {1, 0, 1, 1, 0};
        for (int i = 0; i < groups.length; i++) {
            CHECK.due("class " + i, x.leaf(groups[i], 1, 0, 1000, 1500 + i, 1500), i);
            CHECK.due("count(1)", x.count(1), i + 1);
            CHECK.due("tokens(" + i + ", 0)", x.tokens(i, 0), 1500000 + 1000 * i);
        }
    }

    @Sentence(under = "Promise 3", words = LEAF)
    static void leafAlsoWhilePacketsWait() {
        LinkShaper x = Shapers.wideClass();
        Shapers.arriveTimes(x, 2, 0, 1500);
        CHECK.due("while packets wait", Shapers.wideLeaf(x, 0, 1, 1000), 1);
        x.arrive(1, 64);
        x.run(65);
        CHECK.due("its packet is due", Shapers.sent(x), "2 0");
    }

    @Sentence(under = "Promise 3", words = NO_LEAF)
    static void noLeafComesOfWrongOnes() {
        int[][] wrong = {{0, 0, 0, 500, 1500, 1500}, {0, 13, 0, 500, 1500, 1500}, {0, 1, 9, 500, 1500, 1500},
            {0, 1, 101, 100, 1500, 1500}, {0, 1, 0, -1, 1500, 1500}, {0, 1, 0, 1001, 1500, 1500},
            {0, 1, 0, 500, 1499, 1500}, {0, 1, 0, 500, 20001, 1500}, {0, 1, 0, 500, 1500, 1499},
            {0, 1, 0, 500, 1500, 60001}, {0, 1, 201, 500, 1500, 1500}, {1, 1, 101, 500, 1500, 1500},
            {0, LOW, LOW, LOW, LOW, LOW}, {0, HIGH, HIGH, HIGH, HIGH, HIGH}, {0, 1, HIGH, 1000, 1500, 1500}};
        nothingHappens("wrong classes", x -> {
            for (int[] row : wrong) {
                CHECK.due("leaf" + Arrays.toString(row),
                        x.leaf(row[0], row[1], row[2], row[3], row[4], row[5]), NONE);
            }
        });
    }

    @Sentence(under = "Promise 3", words = NO_LEAF)
    static void noLeafComesWithoutSuchAGroup() {
        nothingHappens("classes of no group", x -> {
            for (int group : new int[] {LOW, -1, 2, 3, 4, HIGH}) {
                CHECK.due("leaf(" + group + ", ..)", x.leaf(group, 1, 10, 1000, 1500, 1500), NONE);
            }
        });
        CHECK.due("leaf(0, ..) without any group", new LinkShaper().leaf(0, 1, 0, 0, 1500, 1500), NONE);
    }

    @Sentence(under = "Promise 3", words = NO_LEAF)
    static void noLeafComesAboveEight() {
        LinkShaper x = Shapers.wide(1);
        for (int i = 0; i < 7; i++) {
            x.leaf(0, 1, 0, 1000, 1500, 1500);
        }
        CHECK.due("a wrong one", x.leaf(0, 0, 0, 1000, 1500, 1500), NONE);
        CHECK.due("an eighth has the next number", x.leaf(0, 1, 0, 1000, 1500, 1500), 7);
        String before = Snapshot.of(x);
        CHECK.due("a ninth", x.leaf(0, 1, 0, 1000, 1500, 1500), NONE);
        CHECK.due("all that it tells", Snapshot.of(x), before);
    }

    @Sentence(under = "Promise 4", words = POLICE)
    static void policeGivesAllTokensEachTime() {
        LinkShaper x = Shapers.wideClass();
        CHECK.due("police(0, 0, 1000, false)", x.police(0, 0, 1000, false), true);
        CHECK.due("tokens(0, 2)", x.tokens(0, 2), 1000000);
        x.arrive(0, 900);
        CHECK.due("tokens(0, 2) after 900 bytes", x.tokens(0, 2), 100000);
        CHECK.due("the same again", x.police(0, 0, 1000, false), true);
        CHECK.due("tokens(0, 2)", x.tokens(0, 2), 1000000);
        CHECK.due("a lesser one", x.police(0, 0, 500, false), true);
        CHECK.due("tokens(0, 2)", x.tokens(0, 2), 500000);
        CHECK.due("the least one", x.police(0, 0, 0, false), true);
        CHECK.due("tokens(0, 2)", x.tokens(0, 2), 0);
    }

    @Sentence(under = "Promise 4", words = POLICE)
    static void policeTakesThePlaceOfRateBurstAndMarks() {
        LinkShaper x = Shapers.wideClass();
        x.police(0, 10, 64, true);
        x.arrive(0, 64);
        CHECK.due("one that marks", x.arrive(0, 64), 1);
        x.police(0, 3, 100, false);
        CHECK.due("100 of 100", x.arrive(0, 100), 2);
        CHECK.due("one that does not mark", x.arrive(0, 64), -2);
        x.run(10);
        CHECK.due("its rate", x.tokens(0, 2), 30);
        x.run(100000);
        CHECK.due("its burst", x.tokens(0, 2), 100000);
        x.police(0, 0, 0, true);
        CHECK.due("one that marks again", x.arrive(0, 64), 3);
        CHECK.due("packet(3, 6)", x.packet(3, 6), 1);
    }

    @Sentence(under = "Promise 4", words = POLICE)
    static void policeLeavesWhatCameBefore() {
        LinkShaper x = Shapers.wideClass();
        Shapers.wideLeaf(x, 0, 1, 0);
        x.arrive(0, 1500);
        x.arrive(0, 1500);
        x.police(0, 0, 0, true);
        CHECK.due("what waits is not marked", x.packet(0, 6) + x.packet(1, 6), 0);
        CHECK.due("it goes", x.run(1501), 2);
        CHECK.due("another class has none", x.tokens(1, 2), 0);
        CHECK.due("another class's packet", x.arrive(1, 1500), 2);
        CHECK.due("is not marked", x.packet(2, 6), 0);
    }

    @Sentence(under = "Promise 4", words = NO_POLICE)
    static void noPolicerWithoutSuchAClass() {
        nothingHappens("policers of no class", x -> {
            for (int leaf : new int[] {LOW, -1, 3, 7, 8, HIGH}) {
                CHECK.due("police(" + leaf + ", 0, 0, false)", x.police(leaf, 0, 0, false), false);
            }
        });
    }

    @Sentence(under = "Promise 4", words = NO_POLICE)
    static void noPolicerIfItIsWrong() {
        int[][] wrong = {{-1, 100}, {1001, 100}, {LOW, 100}, {HIGH, 100}, {100, -1}, {100, 20001}, {100, LOW}, {100, HIGH}};
        nothingHappens("wrong policers", x -> {
            for (int[] row : wrong) {
                for (int leaf = 0; leaf < 3; leaf++) {
                    CHECK.due("police(" + leaf + ", " + row[0] + ", " + row[1] + ", ..)",
                            x.police(leaf, row[0], row[1], leaf == 2), false);
                }
            }
        });
    }

    @Sentence(under = "Promise 5", words = ARRIVE)
    static void arriveInThisTickAheadOfWhatBegins() {
        LinkShaper x = Shapers.wideClass();
        x.run(5);
        CHECK.due("arrive(0, 64)", x.arrive(0, 64), 0);
        CHECK.due("it waits", Shapers.packet(x, 0), "0 64 5 -1 0 -1 0");
        CHECK.due("it begins in that tick", x.run(1), 1);
        CHECK.due("it began", Shapers.packet(x, 0), "0 64 5 5 2 -1 0");
        x.run(63);
        x.arrive(0, 64);
        x.run(1);
        CHECK.due("in the tick in which the link is free again", x.packet(1, 3), 69);
    }

    @Sentence(under = "Promise 5", words = ARRIVE)
    static void arriveTogetherInOneTick() {
        LinkShaper x = Shapers.wide(1);
        Shapers.wideLeaf(x, 0, 1, 0);
        Shapers.wideLeaf(x, 0, 1, 1000);
        x.arrive(0, 64);
        x.arrive(1, 64);
        x.run(1);
        CHECK.due("all that came are looked at before one begins", Shapers.sent(x), "1");
    }

    @Sentence(under = "Promise 5", words = ARRIVE)
    static void arriveNumbersThoseThatWaitOrWereSent() {
        LinkShaper x = Shapers.wide(1);
        x.leaf(0, 1, 0, 1000, 1500, 1500);
        Shapers.wideLeaf(x, 0, 1, 0);
        CHECK.due("the first", x.arrive(0, 1500), 0);
        CHECK.due("one refused by the limit", x.arrive(0, 64), -3);
        CHECK.due("the second", x.arrive(1, 64), 1);
        x.police(1, 0, 0, false);
        CHECK.due("one refused by the policer", x.arrive(1, 64), -2);
        CHECK.due("a wrong one", x.arrive(1, 63), NONE);
        x.run(10000);
        CHECK.due("the third, after two were sent", x.arrive(0, 64), 2);
    }

    @Sentence(under = "Promise 5", words = REFUSED)
    static void arriveRefusedByOneOfBoth() {
        LinkShaper x = Shapers.wide(1);
        x.leaf(0, 1, 0, 1000, 1500, 1500);
        x.police(0, 0, 1564, false);
        CHECK.due("1500 of 1564 tokens, 1500 bytes", x.arrive(0, 1500), 0);
        CHECK.due("64 of 64 tokens, no room", x.arrive(0, 64), -3);
        CHECK.due("no tokens, no room: the policer is asked first", x.arrive(0, 64), -2);
        x.run(1);
        CHECK.due("no tokens, room", x.arrive(0, 64), -2);
        CHECK.due("what waits", x.about(0, 0), 0);
        CHECK.due("packets", x.count(2), 1);
    }

    @Sentence(under = "Promise 5", words = NO_ARRIVAL)
    static void noArrivalWithoutSuchAClass() {
        nothingHappens("packets of no class", x -> {
            for (int leaf : new int[] {LOW, -1, 3, 7, 8, HIGH}) {
                CHECK.due("arrive(" + leaf + ", 64)", x.arrive(leaf, 64), NONE);
            }
        });
    }

    @Sentence(under = "Promise 5", words = NO_ARRIVAL)
    static void noArrivalWithoutSuchASize() {
        nothingHappens("packets of no size", x -> {
            for (int size : new int[] {LOW, -64, -1, 0, 1, 63, 1501, HIGH}) {
                for (int leaf = 0; leaf < 3; leaf++) {
                    CHECK.due("arrive(" + leaf + ", " + size + ")", x.arrive(leaf, size), NONE);
                }
            }
        });
    }

    /** Behind the 512th call, where answers are free: but it must end well. */
    @Sentence(under = "Promise 5", words = NO_ARRIVAL)
    static void noArrivalIfThereAre1000Packets() {
        LinkShaper x = Shapers.wideClass();
        Shapers.wideLeaf(x, 0, 1, 0);
        x.police(1, 0, 0, false);
        x.leaf(0, 1, 0, 0, 1500, 1500);
        x.arrive(2, 1500);
        CHECK.due("one that is refused does not count", x.arrive(1, 64), -2);
        for (int i = 1; i < 1000; i++) {
            CHECK.due("packet " + i, x.arrive(0, 64), i);
            x.run(64);
        }
        x.police(0, 0, 100, false);
        String before = Snapshot.of(x);
        CHECK.due("a packet more", x.arrive(0, 64), NONE);
        CHECK.due("one that the policer would refuse", x.arrive(1, 64), NONE);
        CHECK.due("one that the limit would refuse", x.arrive(2, 64), NONE);
        CHECK.due("all that it tells", Snapshot.of(x), before);
    }

    @Sentence(under = "Promise 6", words = RUN)
    static void run1To100000Ticks() {
        LinkShaper x = Shapers.wideClass();
        int now = 0;
        for (int ticks : new int[] {1, 2, 99999, 100000}) {
            CHECK.due("run(" + ticks + ")", x.run(ticks), 0);
            now += ticks;
            CHECK.due("now()", x.now(), now);
        }
    }

    @Sentence(under = "Promise 6", words = RUN)
    static void runTellsHowManyBeganInThem() {
        LinkShaper x = Shapers.wideClass();
        Shapers.arriveTimes(x, 5, 0, 100);
        CHECK.due("ticks 0 to 99", x.run(100), 1);
        CHECK.due("ticks 100 to 200", x.run(101), 2);
        CHECK.due("ticks 201 to 299, one being on the link", x.run(99), 0);
        CHECK.due("all that are left", x.run(100000), 2);
        CHECK.due("none is left", x.run(100000), 0);
    }

    @Sentence(under = "Promise 6", words = RUN)
    static void runAsManyAsCanBeginInOne() {
        LinkShaper x = Shapers.wideClass();
        Shapers.wideLeaf(x, 0, 1, 0);
        Shapers.arriveTimes(x, 250, 0, 64);
        Shapers.arriveTimes(x, 250, 1, 64);
        CHECK.due("run(32000)", x.run(32000), 500);
        CHECK.due("ticks with something on the link", x.count(4), 32000);
    }

    @Sentence(under = "Promise 6", words = RUN)
    static void runIsTheSameHoweverItIsCut() {
        LinkShaper x = inUse();
        LinkShaper twin = inUse();
        x.run(3000);
        for (int i = 0; i < 3000; i++) {
            twin.run(1);
        }
        CHECK.due("all that it tells", Snapshot.of(x), Snapshot.of(twin));
    }

    @Sentence(under = "Promise 6", words = NO_RUN)
    static void noRunForOtherNumbers() {
        nothingHappens("runs of other numbers", x -> {
            for (int ticks : new int[] {LOW, -100000, -1, 0, 100001, HIGH}) {
                CHECK.due("run(" + ticks + ")", x.run(ticks), NONE);
            }
        });
    }

    /** Behind the 512th call, where answers are free: but it must end well. */
    @Sentence(under = "Promise 6", words = NO_RUN)
    static void noRunAboveTick1000000000() {
        LinkShaper x = Shapers.wide(1);
        x.leaf(0, 1, 10, 10, 1500, 60000);
        for (int i = 0; i < 9999; i++) {
            x.run(100000);
        }
        CHECK.due("run(1)", x.run(1), 0);
        Shapers.arriveTimes(x, 2, 0, 1500);
        String before = Snapshot.of(x);
        CHECK.due("a tick too many", x.run(100000), NONE);
        CHECK.due("all that it tells", Snapshot.of(x), before);
        CHECK.due("just as many as may be", x.run(99999), 1);
        CHECK.due("now()", x.now(), 1000000000);
        CHECK.due("its deadline", x.packet(0, 5), 999900001 + 150000);
        before = Snapshot.of(x);
        for (int ticks : new int[] {1, 100000, HIGH}) {
            CHECK.due("run(" + ticks + ") in the last tick", x.run(ticks), NONE);
        }
        CHECK.due("all that it tells", Snapshot.of(x), before);
    }

    @Sentence(under = "Promise 7", words = NOW)
    static void nowIsTheNextTick() {
        LinkShaper x = new LinkShaper();
        CHECK.due("at first", x.now(), 0);
        x.run(7);
        CHECK.due("without groups", x.now(), 7);
        x.group(1, 1000, 1500);
        x.leaf(0, 1, 0, 0, 1500, 60000);
        Shapers.arriveTimes(x, 2, 0, 1500);
        CHECK.due("after arrivals", x.now(), 7);
        x.run(100);
        CHECK.due("while the link is busy", x.now(), 107);
        x.run(1400);
        CHECK.due("when it is free", x.now(), 1507);
        x.run(1);
        CHECK.due("while a packet is held", x.now(), 1508);
        CHECK.due("asked again", x.now(), 1508);
    }

    @Sentence(under = "Promise 8", words = PACKET)
    static void packetThatWaits() {
        LinkShaper x = Shapers.wideClass();
        Shapers.wideLeaf(x, 0, 1, 10);
        x.run(3);
        x.arrive(1, 64);
        CHECK.due("NONE for when it began and for its DEADLINE", Shapers.packet(x, 0), "1 64 3 -1 0 -1 0");
    }

    @Sentence(under = "Promise 8", words = PACKET)
    static void packetSentAsDueOrAsExcess() {
        LinkShaper x = Shapers.wideClass();
        Shapers.wideLeaf(x, 0, 1, 300);
        x.police(1, 0, 100, true);
        x.run(5);
        x.arrive(1, 100);
        x.arrive(1, 70);
        x.arrive(0, 900);
        x.run(200);
        CHECK.due("as due", Shapers.packet(x, 0), "1 100 5 5 1 339 0");
        CHECK.due("as excess and marked: no DEADLINE", Shapers.packet(x, 1), "1 70 5 105 2 -1 1");
        CHECK.due("as excess", Shapers.packet(x, 2), "0 900 5 175 2 -1 0");
    }

    @Sentence(under = "Promise 8", words = PACKET)
    static void packetThatIsMarkedAndDue() {
        LinkShaper x = Shapers.wide(1);
        Shapers.wideLeaf(x, 0, 1, 1000);
        x.police(0, 0, 0, true);
        x.arrive(0, 64);
        CHECK.due("while it waits", Shapers.packet(x, 0), "0 64 0 -1 0 -1 1");
        x.run(1);
        CHECK.due("once it began", Shapers.packet(x, 0), "0 64 0 0 1 64 1");
    }

    @Sentence(under = "Promise 8", words = NO_FIGURE)
    static void packetWithoutItOrForAnotherWhat() {
        LinkShaper x = inUse();
        int packets = x.count(2);
        CHECK.due("the last one's size", x.packet(packets - 1, 1), 700);
        for (int k : new int[] {LOW, -1, packets, packets + 1, 999, 1000, HIGH}) {
            CHECK.due("packet(" + k + ", ..)", Shapers.packet(x, k), "-1 -1 -1 -1 -1 -1 -1");
        }
        for (int what : new int[] {LOW, -1, 7, 8, HIGH}) {
            CHECK.due("packet(0, " + what + ")", x.packet(0, what), NONE);
        }
    }

    @Sentence(under = "Promise 9", words = SENT)
    static void sentInTheOrderOfBeginning() {
        LinkShaper x = Shapers.wideClass();
        Shapers.wideLeaf(x, 0, 1, 1000);
        x.arrive(0, 100);
        Shapers.arriveTimes(x, 2, 1, 100);
        CHECK.due("before any began", x.sent(0), NONE);
        x.run(1);
        CHECK.due("the first, on the link", x.sent(0), 1);
        CHECK.due("behind it", x.sent(1), NONE);
        x.run(200);
        CHECK.due("the second", x.sent(1), 2);
        CHECK.due("the third", x.sent(2), 0);
    }

    @Sentence(under = "Promise 9", words = SENT)
    static void sentNoneForOthers() {
        LinkShaper x = inUse();
        int began = x.count(3);
        CHECK.due("some wait", began < x.count(2), true);
        for (int i : new int[] {LOW, -1, began, began + 1, 999, 1000, HIGH}) {
            CHECK.due("sent(" + i + ")", x.sent(i), NONE);
        }
    }

    @Sentence(under = "Promise 10", words = ABOUT)
    static void aboutEachFigure() {
        LinkShaper x = Shapers.wide(1);
        x.leaf(0, 1, 300, 1000, 20000, 1500);
        x.police(0, 0, 1800, false);
        CHECK.due("at first", Shapers.about(x, 0), "0 0 0 0 0 0 0 0");
        for (int size : new int[] {100, 200, 1000, 201, 400, 400}) {
            x.arrive(0, size);
        }
        CHECK.due("after arrivals", Shapers.about(x, 0), "3 1300 0 0 2 1 0 0");
        x.run(1);
        CHECK.due("after one began as due", Shapers.about(x, 0), "2 1200 100 0 2 1 334 0");
        x.run(100);
        CHECK.due("after one began as excess", Shapers.about(x, 0), "1 1000 100 200 2 1 334 0");
        x.run(300);
        CHECK.due("after the last began", Shapers.about(x, 0), "0 0 100 1200 2 1 334 0");
    }

    @Sentence(under = "Promise 10", words = ABOUT)
    static void aboutHeldOnlyWithAFreeLink() {
        LinkShaper x = Shapers.slowClass(100);
        x.arrive(0, 1500);
        x.arrive(0, 200);
        x.run(1500);
        CHECK.due("while the link is busy", x.about(0, 7), 0);
        x.run(1);
        CHECK.due("in the first tick in which it is free", x.about(0, 7), 1);
    }

    @Sentence(under = "Promise 10", words = ABOUT)
    static void aboutHeldOnlyIfNoneIsDue() {
        LinkShaper x = Shapers.slowClass(0);
        Shapers.wideLeaf(x, 0, 1, 1000);
        x.arrive(0, 1500);
        x.run(1500);
        x.arrive(0, 64);
        Shapers.arriveTimes(x, 2, 1, 64);
        x.run(128);
        CHECK.due("while others go as due", x.about(0, 7), 0);
        x.run(1);
        CHECK.due("once none is due", x.about(0, 7), 1);
    }

    @Sentence(under = "Promise 10", words = ABOUT)
    static void aboutHeldInATickInWhichAnotherGoesAsExcess() {
        LinkShaper x = Shapers.slowClass(0);
        Shapers.wideLeaf(x, 0, 1, 0);
        x.arrive(0, 1500);
        x.run(1500);
        x.arrive(0, 64);
        Shapers.arriveTimes(x, 2, 1, 64);
        x.run(128);
        CHECK.due("in the two ticks in which others went", x.about(0, 7), 2);
        CHECK.due("those were not held", x.about(1, 7), 0);
    }

    /** The tokens that a packet takes in a tick are not missing for others in the same tick. */
    @Sentence(under = "Promise 10", words = ABOUT)
    static void aboutNotHeldByTokensTakenInTheSameTick() {
        LinkShaper x = Shapers.slowGroup(0);
        Shapers.wideLeaf(x, 0, 1, 0);
        x.arrive(0, 1500);
        x.arrive(1, 1500);
        x.run(1);
        CHECK.due("in the tick in which the other took them", x.about(1, 7), 0);
        x.run(1500);
        CHECK.due("in the first tick with a free link", x.about(1, 7), 1);
    }

    @Sentence(under = "Promise 10", words = ABOUT)
    static void aboutHeldUntilItGoes() {
        LinkShaper x = Shapers.slowClass(100);
        x.arrive(0, 1500);
        x.run(1500);
        x.arrive(0, 200);
        x.run(499);
        CHECK.due("a tick's tokens short", x.tokens(0, 0), 199900);
        x.run(1);
        CHECK.due("held in each tick", x.about(0, 7), 500);
        CHECK.due("it goes", x.run(1), 1);
        x.run(10000);
        CHECK.due("not held when it goes, nor when nothing waits", x.about(0, 7), 500);
    }

    @Sentence(under = "Promise 10", words = ABOUT)
    static void aboutHeldAheadOfItsStart() {
        LinkShaper x = Shapers.wide(1);
        x.leaf(0, 1, 500, 500, 1500, 60000);
        Shapers.arriveTimes(x, 2, 0, 1500);
        x.run(3000);
        CHECK.due("ticks 1500 to 2999", x.about(0, 7), 1500);
        CHECK.due("due in 3000", x.run(1), 1);
        CHECK.due("not held as due", x.about(0, 7), 1500);
    }

    @Sentence(under = "Promise 10", words = NO_FIGURE)
    static void aboutWithoutItOrForAnotherWhat() {
        LinkShaper x = inUse();
        for (int leaf : new int[] {LOW, -1, 3, 7, 8, HIGH}) {
            CHECK.due("about(" + leaf + ", ..)", Shapers.about(x, leaf), "-1 -1 -1 -1 -1 -1 -1 -1");
        }
        for (int what : new int[] {LOW, -1, 8, 9, HIGH}) {
            CHECK.due("about(0, " + what + ")", x.about(0, what), NONE);
        }
    }

    @Sentence(under = "Promise 11", words = TOKENS)
    static void tokensAheadOfTheNextTick() {
        LinkShaper x = new LinkShaper();
        x.group(1, 500, 3000);
        x.leaf(0, 1, 0, 250, 2000, 60000);
        x.police(0, 100, 1000, false);
        x.arrive(0, 1000);
        CHECK.due("a class's ceiling ahead of the tick", x.tokens(0, 0), 2000000);
        CHECK.due("a group's ceiling ahead of the tick", x.tokens(0, 1), 3000000);
        CHECK.due("a policer as soon as a packet comes", x.tokens(0, 2), 0);
        x.run(1);
        CHECK.due("a class's ceiling", x.tokens(0, 0), 1000250);
        CHECK.due("a group's ceiling", x.tokens(0, 1), 2000500);
        CHECK.due("a policer", x.tokens(0, 2), 100);
    }

    @Sentence(under = "Promise 11", words = TOKENS)
    static void tokensBelow0AreToldSo() {
        LinkShaper x = Shapers.slowGroup(10);
        Shapers.wideLeaf(x, 0, 1, 10);
        x.arrive(0, 1500);
        x.run(1500);
        x.arrive(1, 1500);
        CHECK.due("a group's ceiling ahead of a due one", x.tokens(0, 1), 15000);
        x.run(1);
        CHECK.due("below 0 after it", x.tokens(0, 1), 15000 - 1500000 + 10);
    }

    @Sentence(under = "Promise 11", words = TOKENS)
    static void tokensOfAPolicer0Without() {
        LinkShaper x = Shapers.wideClass();
        Shapers.wideLeaf(x, 0, 1, 0);
        x.police(1, 0, 20000, false);
        CHECK.due("without", x.tokens(0, 2), 0);
        CHECK.due("with", x.tokens(1, 2), 20000000);
    }

    @Sentence(under = "Promise 11", words = NO_SUCH)
    static void tokens0WithoutSuch() {
        LinkShaper x = inUse();
        for (int k : new int[] {LOW, -1, 3, 4, 7, 8, HIGH}) {
            for (int what = 0; what <= 2; what++) {
                CHECK.due("tokens(" + k + ", " + what + ")", x.tokens(k, what), 0);
            }
        }
        CHECK.due("of a class's number without such a group", x.tokens(2, 1), 0);
        for (int what : new int[] {LOW, -1, 3, 4, HIGH}) {
            CHECK.due("tokens(0, " + what + ")", x.tokens(0, what), 0);
        }
        LinkShaper y = Shapers.wide(1);
        CHECK.due("of a group's number without such a class", y.tokens(0, 0) + y.tokens(0, 2), 0);
    }

    @Sentence(under = "Promise 12", words = TAG)
    static void tagOfClassGroupAndLink() {
        LinkShaper x = new LinkShaper();
        x.group(5, 1000, 20000);
        x.group(3, 1000, 20000);
        Shapers.wideLeaf(x, 0, 7, 0);
        Shapers.wideLeaf(x, 0, 11, 0);
        x.arrive(0, 100);
        x.run(100);
        CHECK.due("a class's SUM", x.tag(0, 0), 396000);
        CHECK.due("a group's SUM", x.tag(0, 1), 554400);
        CHECK.due("a group's MARK", x.tag(0, 2), 396000);
        CHECK.due("another class's SUM", x.tag(1, 0), 0);
        CHECK.due("another group's SUM", x.tag(1, 1), 0);
        CHECK.due("another group's MARK", x.tag(1, 2), 0);
        for (int k : new int[] {LOW, -1, 0, 1, 2, 99, HIGH}) {
            CHECK.due("the link's MARK, tag(" + k + ", 3)", x.tag(k, 3), 554400);
        }
    }

    /** 52 packets of the greatest size go beyond what an int holds. */
    @Sentence(under = "Promise 12", words = TAG)
    static void tagIsALong() {
        LinkShaper x = Shapers.wideClass();
        for (int i = 0; i < 200; i++) {
            x.arrive(0, 1500);
            x.run(1500);
        }
        for (int what = 0; what <= 3; what++) {
            CHECK.due("tag(0, " + what + ")", x.tag(0, what), 27720L * 1500 * 200);
        }
    }

    @Sentence(under = "Promise 12", words = NO_SUCH)
    static void tag0WithoutSuch() {
        LinkShaper x = Shapers.wide(1);
        Shapers.wideLeaf(x, 0, 1, 0);
        Shapers.wideLeaf(x, 0, 1, 0);
        x.arrive(1, 100);
        x.run(100);
        CHECK.due("of a class's number without such a group", x.tag(1, 1) + x.tag(1, 2), 0);
        for (int k : new int[] {LOW, -1, 2, 4, 8, HIGH}) {
            for (int what = 0; what <= 2; what++) {
                CHECK.due("tag(" + k + ", " + what + ")", x.tag(k, what), 0);
            }
        }
        for (int what : new int[] {LOW, -1, 4, 5, HIGH}) {
            CHECK.due("tag(1, " + what + ")", x.tag(1, what), 0);
        }
    }

    @Sentence(under = "Promise 13", words = COUNT)
    static void countEachFigure() {
        LinkShaper x = Shapers.wide(2);
        for (int i = 0; i < 3; i++) {
            x.leaf(1, 1, 0, 1000, 20000, 1500);
        }
        x.arrive(1, 1400);
        x.arrive(1, 101);
        x.arrive(0, 100);
        CHECK.due("those that came to wait, not the refused one", Shapers.count(x), "2 3 2 0 0 -1");
        x.run(1);
        CHECK.due("the second one is on the link", Shapers.count(x), "2 3 2 1 1 1");
        x.run(98);
        CHECK.due("ahead of its last byte", Shapers.count(x), "2 3 2 1 99 1");
        x.run(1);
        CHECK.due("between two", Shapers.count(x), "2 3 2 1 100 -1");
        x.run(1);
        CHECK.due("the first one is on the link", Shapers.count(x), "2 3 2 2 101 0");
        x.run(2000);
        CHECK.due("idle ticks do not count", Shapers.count(x), "2 3 2 2 1500 -1");
    }

    @Sentence(under = "Promise 13", words = NO_COUNT)
    static void countForAnotherWhat() {
        LinkShaper x = inUse();
        for (int what : new int[] {LOW, -1, 6, 7, HIGH}) {
            CHECK.due("count(" + what + ")", x.count(what), NONE);
        }
    }
}
