/** Part II of the Terms, sentence by sentence: what becomes of a packet that comes to a class. */
public final class TermsTwoTest {
    private static final int NONE = Shapers.NONE;

    private static final String POLICED = "A packet that comes to a class: if there is a POLICER: "
            + "are its TOKENS at least 1000 times the size, they are less by that; "
            + "if not, the packet is marked if it MARKS (TOKENS stay), else refused.";
    private static final String LIMITED = "Then, if what waits already and the packet are more than the LIMIT, "
            + "it is refused (TOKENS of the POLICER are as they are then).";
    private static final String WAITS = "Else it waits, the last one of its class.";
    private static final String ON_LINK = "What is on the link does not wait any more.";

    private static final Check CHECK = new Check("TermsTwoTest");

    public static void main(String[] args) throws Exception {
        Sentences.run(TermsTwoTest.class, CHECK);
    }

    /** A policer that has no tokens in tick 0, and gets one thousandth of a byte with each tick. */
    private static LinkShaper emptyPolicer(boolean marks) {
        LinkShaper x = Shapers.wideClass();
        x.police(0, 1, 64, marks);
        x.arrive(0, 64);
        CHECK.due("tokens(0, 2)", x.tokens(0, 2), 0);
        return x;
    }

    /** A class of which 1436 bytes of 1500 wait, with a policer that has 200 bytes. */
    private static LinkShaper nearlyFull(boolean marks) {
        LinkShaper x = Shapers.wide(1);
        x.leaf(0, 1, 0, 1000, 1500, 1500);
        x.arrive(0, 1436);
        x.police(0, 0, 200, marks);
        return x;
    }

    @Sentence(under = "II", words = POLICED)
    static void policerWithJustEnoughTokens() {
        for (int size : new int[] {64, 65, 1499, 1500}) {
            for (boolean marks : new boolean[] {false, true}) {
                LinkShaper x = Shapers.wideClass();
                x.police(0, 0, size, marks);
                CHECK.due("arrive(0, " + size + ")", x.arrive(0, size), 0);
                CHECK.due("its tokens are less by all", x.tokens(0, 2), 0);
                CHECK.due("no mark", x.packet(0, 6), 0);
            }
        }
    }

    @Sentence(under = "II", words = POLICED)
    static void policerWithTokensToSpare() {
        LinkShaper x = Shapers.wideClass();
        x.police(0, 0, 20000, true);
        CHECK.due("arrive(0, 64)", x.arrive(0, 64), 0);
        CHECK.due("less by 64000", x.tokens(0, 2), 19936000);
        CHECK.due("arrive(0, 1500)", x.arrive(0, 1500), 1);
        CHECK.due("less by 1500000", x.tokens(0, 2), 18436000);
        CHECK.due("no mark", x.packet(1, 6), 0);
    }

    @Sentence(under = "II", words = POLICED)
    static void policerAThousandthShortRefuses() {
        LinkShaper x = emptyPolicer(false);
        x.run(63999);
        CHECK.due("tokens(0, 2)", x.tokens(0, 2), 63999);
        CHECK.due("a thousandth short", x.arrive(0, 64), -2);
        CHECK.due("its tokens stay", x.tokens(0, 2), 63999);
        CHECK.due("nothing waits", x.about(0, 0), 0);
        x.run(1);
        CHECK.due("a tick later", x.arrive(0, 64), 1);
        CHECK.due("its tokens are less", x.tokens(0, 2), 0);
    }

    @Sentence(under = "II", words = POLICED)
    static void policerAThousandthShortMarks() {
        LinkShaper x = emptyPolicer(true);
        x.run(63999);
        CHECK.due("a thousandth short", x.arrive(0, 64), 1);
        CHECK.due("it is marked", x.packet(1, 6), 1);
        CHECK.due("tokens stay", x.tokens(0, 2), 63999);
        CHECK.due("it waits", x.about(0, 0), 1);
        x.run(1);
        CHECK.due("a tick later", x.arrive(0, 64), 2);
        CHECK.due("it is not marked", x.packet(2, 6), 0);
        CHECK.due("its tokens are less", x.tokens(0, 2), 0);
    }

    @Sentence(under = "II", words = POLICED)
    static void policerThatIsShortLetsASmallerOneThrough() {
        LinkShaper x = Shapers.wideClass();
        x.police(0, 0, 100, false);
        CHECK.due("101 of 100", x.arrive(0, 101), -2);
        CHECK.due("100 of 100", x.arrive(0, 100), 0);
    }

    @Sentence(under = "II", words = POLICED)
    static void policerOfAnotherClassIsNotAsked() {
        LinkShaper x = Shapers.wideClass();
        Shapers.wideLeaf(x, 0, 1, 0);
        x.police(1, 0, 100, false);
        CHECK.due("a class without one", x.arrive(0, 1500), 0);
        CHECK.due("no mark", x.packet(0, 6), 0);
        CHECK.due("the other's tokens", x.tokens(1, 2), 100000);
    }

    @Sentence(under = "II", words = LIMITED)
    static void limitIsReachedButNotPassed() {
        for (int limit : new int[] {1500, 1501, 3000}) {
            LinkShaper x = Shapers.wide(1);
            x.leaf(0, 1, 0, 1000, 1500, limit);
            Shapers.arriveTimes(x, limit / 1500 - 1, 0, 1500);
            int left = limit - x.about(0, 1);
            int first = x.count(2);
            CHECK.due("all but 100 of what is left", x.arrive(0, left - 100), first);
            CHECK.due("a byte too many", x.arrive(0, 101), -3);
            CHECK.due("as many as fit", x.arrive(0, 100), first + 1);
            CHECK.due("bytes that wait", x.about(0, 1), limit);
            CHECK.due("one more when it is full", x.arrive(0, 64), -3);
            CHECK.due("bytes that wait", x.about(0, 1), limit);
        }
    }

    @Sentence(under = "II", words = LIMITED)
    static void limitLetsTheGreatestPacketIntoAnEmptyClass() {
        LinkShaper x = Shapers.wide(1);
        x.leaf(0, 1, 0, 1000, 1500, 1500);
        CHECK.due("arrive(0, 1500)", x.arrive(0, 1500), 0);
        CHECK.due("arrive(0, 64)", x.arrive(0, 64), -3);
    }

    @Sentence(under = "II", words = LIMITED)
    static void limitOfTheGreatestClass() {
        LinkShaper x = Shapers.wideClass();
        Shapers.arriveTimes(x, 40, 0, 1500);
        CHECK.due("bytes that wait", x.about(0, 1), 60000);
        CHECK.due("one more", x.arrive(0, 64), -3);
    }

    @Sentence(under = "II", words = LIMITED)
    static void limitRefusesWhatThePolicerHasTakenTokensFor() {
        LinkShaper x = nearlyFull(false);
        CHECK.due("65 of 64", x.arrive(0, 65), -3);
        CHECK.due("tokens are less", x.tokens(0, 2), 135000);
        CHECK.due("136 of 135: the policer is asked first", x.arrive(0, 136), -2);
        CHECK.due("tokens stay", x.tokens(0, 2), 135000);
        CHECK.due("135 of 135", x.arrive(0, 135), -3);
        CHECK.due("tokens are less", x.tokens(0, 2), 0);
        CHECK.due("refused by the policer", x.about(0, 4), 1);
        CHECK.due("refused by the limit", x.about(0, 5), 2);
    }

    @Sentence(under = "II", words = LIMITED)
    static void limitRefusesMarkedOnesToo() {
        LinkShaper x = nearlyFull(true);
        CHECK.due("201 of 200, to be marked", x.arrive(0, 201), -3);
        CHECK.due("tokens stay", x.tokens(0, 2), 200000);
        CHECK.due("refused by the policer", x.about(0, 4), 0);
        CHECK.due("refused by the limit", x.about(0, 5), 1);
        CHECK.due("packets", x.count(2), 1);
    }

    @Sentence(under = "II", words = LIMITED)
    static void limitIsOfOneClass() {
        LinkShaper x = nearlyFull(false);
        x.leaf(0, 1, 0, 1000, 1500, 1500);
        CHECK.due("another class of the group", x.arrive(1, 1500), 1);
        CHECK.due("64 of 64", x.arrive(0, 64), 2);
    }

    @Sentence(under = "II", words = WAITS)
    static void waitsAsTheLastOfItsClass() {
        LinkShaper x = Shapers.wideClass();
        x.arrive(0, 1500);
        x.arrive(0, 64);
        x.run(1);
        x.arrive(0, 100);
        x.run(1499);
        x.arrive(0, 64);
        x.run(10000);
        CHECK.due("in the order in which they came", Shapers.sent(x), "0 1 2 3");
    }

    @Sentence(under = "II", words = WAITS)
    static void waitsAgainAfterAllHaveGone() {
        LinkShaper x = Shapers.wideClass();
        x.arrive(0, 64);
        x.run(64);
        CHECK.due("nothing waits", x.about(0, 0), 0);
        x.arrive(0, 64);
        x.arrive(0, 65);
        CHECK.due("packets that wait", x.about(0, 0), 2);
        CHECK.due("bytes that wait", x.about(0, 1), 129);
        x.run(1000);
        CHECK.due("in the order in which they came", Shapers.sent(x), "0 1 2");
    }

    @Sentence(under = "II", words = ON_LINK)
    static void onTheLinkItDoesNotWait() {
        LinkShaper x = Shapers.wide(1);
        x.leaf(0, 1, 0, 1000, 1500, 1500);
        x.arrive(0, 1500);
        CHECK.due("waits ahead of its tick", x.about(0, 1), 1500);
        CHECK.due("so there is no room", x.arrive(0, 64), -3);
        x.run(1);
        CHECK.due("packets that wait", x.about(0, 0), 0);
        CHECK.due("bytes that wait", x.about(0, 1), 0);
        CHECK.due("room for a full limit", x.arrive(0, 1500), 1);
        CHECK.due("and no more", x.arrive(0, 64), -3);
        x.run(1499);
        CHECK.due("no more while the first one is on the link", x.arrive(0, 64), -3);
        CHECK.due("on the link ahead of the next tick", x.count(5), NONE);
        x.run(1);
        CHECK.due("room again", x.arrive(0, 64), 2);
    }
}
