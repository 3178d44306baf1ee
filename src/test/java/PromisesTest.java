/** Each promise of the document by itself: ordinary inputs, the edges that it names, wrong inputs. */
public final class PromisesTest {
    private static final int LOW = Integer.MIN_VALUE;
    private static final int HIGH = Integer.MAX_VALUE;

    private static final Check CHECK = new Check("PromisesTest");

    public static void main(String[] args) {
        newObject();
        groupEdges();
        groupsAtMostFour();
        groupWhilePacketsWait();
        leafEdges();
        leafGuarantees();
        leavesAtMostEight();
        policeEdges();
        policeReplaces();
        arriveEdges();
        arriveRefused();
        arriveAtMostThousand();
        runEdges();
        runToTheLastTick();
        runCountsBegun();
        nowTells();
        packetFigures();
        sentInOrder();
        aboutFigures();
        heldTicks();
        tokensFigures();
        tagFigures();
        countFigures();
        wrongCallsChangeNothing();
        CHECK.end();
    }

    private static LinkShaper oneClass(int guarantee, int ceiling) {
        LinkShaper x = new LinkShaper();
        CHECK.due("group(1, 1000, 1500)", x.group(1, 1000, 1500), 0);
        CHECK.due("leaf(0, 1, ..)", x.leaf(0, 1, guarantee, ceiling, 1500, 60000), 0);
        return x;
    }

    /** Promise 1. */
    private static void newObject() {
        LinkShaper x = new LinkShaper();
        CHECK.due("now() of a new object", x.now(), 0);
        for (int what = 0; what <= 4; what++) {
            CHECK.due("count(" + what + ") of a new object", x.count(what), 0);
        }
        CHECK.due("count(5) of a new object", x.count(5), LinkShaper.NONE);
        CHECK.due("sent(0) of a new object", x.sent(0), LinkShaper.NONE);
        CHECK.due("packet(0, 0) of a new object", x.packet(0, 0), LinkShaper.NONE);
        CHECK.due("about(0, 0) of a new object", x.about(0, 0), LinkShaper.NONE);
        CHECK.due("tag(0, 3) of a new object", x.tag(0, 3), 0);
        CHECK.due("arrive(0, 64) of a new object", x.arrive(0, 64), LinkShaper.NONE);
        CHECK.due("run(1) of a new object", x.run(1), 0);
        CHECK.due("another object", new LinkShaper().now(), 0);
    }

    /** Promise 2. */
    private static void groupEdges() {
        LinkShaper x = new LinkShaper();
        int[][] wrong = {
            {0, 500, 1500}, {13, 500, 1500}, {-1, 500, 1500}, {LOW, 500, 1500}, {HIGH, 500, 1500},
            {1, -1, 1500}, {1, 1001, 1500}, {1, LOW, 1500}, {1, HIGH, 1500},
            {1, 500, 1499}, {1, 500, 20001}, {1, 500, 0}, {1, 500, LOW}, {1, 500, HIGH}};
        for (int[] row : wrong) {
            CHECK.due("group(" + row[0] + ", " + row[1] + ", " + row[2] + ")",
                    x.group(row[0], row[1], row[2]), LinkShaper.NONE);
        }
        CHECK.due("count(0) after wrong groups", x.count(0), 0);
        CHECK.due("group(1, 0, 1500)", x.group(1, 0, 1500), 0);
        CHECK.due("group(12, 1000, 20000)", x.group(12, 1000, 20000), 1);
        CHECK.due("tokens(0, 1)", x.tokens(0, 1), 1500000);
        CHECK.due("tokens(1, 1)", x.tokens(1, 1), 20000000);
    }

    /** Promise 2. */
    private static void groupsAtMostFour() {
        LinkShaper x = new LinkShaper();
        for (int i = 0; i < 4; i++) {
            CHECK.due("group of number " + i, x.group(1, 1000, 1500), i);
        }
        CHECK.due("a fifth group", x.group(1, 1000, 1500), LinkShaper.NONE);
        CHECK.due("count(0)", x.count(0), 4);
    }

    /** Promise 2. */
    private static void groupWhilePacketsWait() {
        LinkShaper x = oneClass(0, 1000);
        x.arrive(0, 1500);
        x.arrive(0, 1500);
        x.run(10);
        CHECK.due("group while packets wait", x.group(2, 1000, 2000), 1);
        CHECK.due("leaf while packets wait", x.leaf(1, 2, 0, 1000, 2000, 1500), 1);
        CHECK.due("all tokens of a late group", x.tokens(1, 1), 2000000);
        CHECK.due("all tokens of a late class", x.tokens(1, 0), 2000000);
        CHECK.due("no sum of a late group", x.tag(1, 1), 0);
        CHECK.due("arrive at a late class", x.arrive(1, 100), 2);
        CHECK.due("its group's sum is the link's mark", x.tag(1, 1), 27720L * 1500);
        CHECK.due("its own sum is its group's mark", x.tag(1, 0), 0);
    }

    /** Promise 3. */
    private static void leafEdges() {
        LinkShaper x = new LinkShaper();
        CHECK.due("leaf without groups", x.leaf(0, 1, 0, 1000, 1500, 1500), LinkShaper.NONE);
        x.group(1, 1000, 1500);
        int[][] wrong = {
            {-1, 1, 0, 500, 1500, 1500}, {1, 1, 0, 500, 1500, 1500}, {LOW, 1, 0, 500, 1500, 1500},
            {HIGH, 1, 0, 500, 1500, 1500}, {0, 0, 0, 500, 1500, 1500}, {0, 13, 0, 500, 1500, 1500},
            {0, LOW, 0, 500, 1500, 1500}, {0, HIGH, 0, 500, 1500, 1500}, {0, 1, 9, 500, 1500, 1500},
            {0, 1, 1, 500, 1500, 1500}, {0, 1, -1, 500, 1500, 1500}, {0, 1, -10, 500, 1500, 1500},
            {0, 1, 1001, 1000, 1500, 1500}, {0, 1, LOW, 500, 1500, 1500}, {0, 1, HIGH, 500, 1500, 1500},
            {0, 1, 501, 500, 1500, 1500}, {0, 1, 0, -1, 1500, 1500}, {0, 1, 0, 1001, 1500, 1500},
            {0, 1, 0, LOW, 1500, 1500}, {0, 1, 0, HIGH, 1500, 1500}, {0, 1, 0, 500, 1499, 1500},
            {0, 1, 0, 500, 20001, 1500}, {0, 1, 0, 500, LOW, 1500}, {0, 1, 0, 500, HIGH, 1500},
            {0, 1, 0, 500, 1500, 1499}, {0, 1, 0, 500, 1500, 60001}, {0, 1, 0, 500, 1500, LOW},
            {0, 1, 0, 500, 1500, HIGH}};
        for (int[] row : wrong) {
            CHECK.due("leaf(" + java.util.Arrays.toString(row) + ")",
                    x.leaf(row[0], row[1], row[2], row[3], row[4], row[5]), LinkShaper.NONE);
        }
        CHECK.due("count(1) after wrong classes", x.count(1), 0);
        CHECK.due("the least class", x.leaf(0, 1, 0, 0, 1500, 1500), 0);
        CHECK.due("the least guarantee", x.leaf(0, 1, 10, 10, 1500, 1500), 1);
        CHECK.due("the greatest class", x.leaf(0, 12, 990, 1000, 20000, 60000), 2);
        CHECK.due("tokens(2, 0)", x.tokens(2, 0), 20000000);
    }

    /** Promise 3: all guarantees together, and those of a group. */
    private static void leafGuarantees() {
        LinkShaper x = new LinkShaper();
        x.group(1, 300, 1500);
        x.group(1, 1000, 1500);
        CHECK.due("above the group's ceiling", x.leaf(0, 1, 301, 1000, 1500, 1500), LinkShaper.NONE);
        CHECK.due("200 of a group's 300", x.leaf(0, 1, 200, 1000, 1500, 1500), 0);
        CHECK.due("101 more", x.leaf(0, 1, 101, 1000, 1500, 1500), LinkShaper.NONE);
        CHECK.due("100 more", x.leaf(0, 1, 100, 1000, 1500, 1500), 1);
        CHECK.due("10 more", x.leaf(0, 1, 10, 1000, 1500, 1500), LinkShaper.NONE);
        CHECK.due("a class without guarantee in a full group", x.leaf(0, 1, 0, 1000, 1500, 1500), 2);
        CHECK.due("701 of the link's 700", x.leaf(1, 1, 701, 1000, 1500, 1500), LinkShaper.NONE);
        CHECK.due("700 of the link's 700", x.leaf(1, 1, 700, 1000, 1500, 1500), 3);
        CHECK.due("10 of the link's 0", x.leaf(1, 1, 10, 1000, 1500, 1500), LinkShaper.NONE);
        CHECK.due("a class's ceiling may be above its group's", x.leaf(0, 1, 0, 301, 1500, 1500), 4);
    }

    /** Promise 3. */
    private static void leavesAtMostEight() {
        LinkShaper x = new LinkShaper();
        x.group(1, 1000, 1500);
        x.group(1, 1000, 1500);
        for (int i = 0; i < 8; i++) {
            CHECK.due("class of number " + i, x.leaf(i % 2, 1, 0, 1000, 1500, 1500), i);
        }
        CHECK.due("a ninth class", x.leaf(0, 1, 0, 1000, 1500, 1500), LinkShaper.NONE);
        CHECK.due("count(1)", x.count(1), 8);
        CHECK.due("arrive at the eighth", x.arrive(7, 64), 0);
    }

    /** Promise 4. */
    private static void policeEdges() {
        LinkShaper x = oneClass(0, 1000);
        int[][] wrong = {
            {-1, 1, 1}, {1, 1, 1}, {LOW, 1, 1}, {HIGH, 1, 1}, {0, -1, 1}, {0, 1001, 1}, {0, LOW, 1}, {0, HIGH, 1},
            {0, 1, -1}, {0, 1, 20001}, {0, 1, LOW}, {0, 1, HIGH}};
        for (int[] row : wrong) {
            String call = "police(" + java.util.Arrays.toString(row) + ")";
            CHECK.due(call, x.police(row[0], row[1], row[2], false), false);
            CHECK.due(call, x.police(row[0], row[1], row[2], true), false);
        }
        CHECK.due("there is no policer yet", x.arrive(0, 64), 0);
        CHECK.due("police(0, 1000, 20000, true)", x.police(0, 1000, 20000, true), true);
        CHECK.due("tokens(0, 2)", x.tokens(0, 2), 20000000);
        CHECK.due("police(0, 0, 0, false)", x.police(0, 0, 0, false), true);
        CHECK.due("tokens(0, 2)", x.tokens(0, 2), 0);
        CHECK.due("nothing passes a burst of 0", x.arrive(0, 64), -2);
        CHECK.due("a wrong one leaves the policer", x.police(0, 1001, 20000, true), false);
        CHECK.due("it refuses still", x.arrive(0, 64), -2);
    }

    /** Promise 4. */
    private static void policeReplaces() {
        LinkShaper x = oneClass(0, 1000);
        x.police(0, 0, 1000, false);
        CHECK.due("900 of 1000", x.arrive(0, 900), 0);
        CHECK.due("tokens(0, 2)", x.tokens(0, 2), 100000);
        CHECK.due("101 of 100", x.arrive(0, 101), -2);
        CHECK.due("police again", x.police(0, 0, 1000, false), true);
        CHECK.due("all its tokens", x.tokens(0, 2), 1000000);
        CHECK.due("1000 of 1000", x.arrive(0, 1000), 1);
        CHECK.due("police with marks", x.police(0, 10, 64, true), true);
        CHECK.due("64 of 64", x.arrive(0, 64), 2);
        CHECK.due("64 of 0, marked", x.arrive(0, 64), 3);
        CHECK.due("packet(2, 6)", x.packet(2, 6), 0);
        CHECK.due("packet(3, 6)", x.packet(3, 6), 1);
        CHECK.due("police without marks", x.police(0, 10, 63, false), true);
        CHECK.due("64 of 63", x.arrive(0, 64), -2);
        x.run(100);
        CHECK.due("the burst holds tokens back", x.tokens(0, 2), 63000);
    }

    /** Promise 5. */
    private static void arriveEdges() {
        LinkShaper x = oneClass(0, 1000);
        int[][] wrong = {{-1, 64}, {1, 64}, {8, 64}, {LOW, 64}, {HIGH, 64}, {0, 63}, {0, 1501}, {0, 0}, {0, -64},
            {0, LOW}, {0, HIGH}};
        for (int[] row : wrong) {
            CHECK.due("arrive(" + row[0] + ", " + row[1] + ")", x.arrive(row[0], row[1]), LinkShaper.NONE);
        }
        CHECK.due("count(2) after wrong ones", x.count(2), 0);
        CHECK.due("arrive(0, 64)", x.arrive(0, 64), 0);
        CHECK.due("arrive(0, 1500)", x.arrive(0, 1500), 1);
        CHECK.due("it begins in the tick in which it came", x.run(1), 1);
        CHECK.due("packet(0, 3)", x.packet(0, 3), 0);
    }

    /** Promise 5: the policer is asked first, and keeps what it took when the limit refuses. */
    private static void arriveRefused() {
        LinkShaper x = new LinkShaper();
        x.group(1, 1000, 1500);
        x.leaf(0, 1, 0, 1000, 1500, 1500);
        CHECK.due("1436 of 1500", x.arrive(0, 1436), 0);
        CHECK.due("65 too many", x.arrive(0, 65), -3);
        CHECK.due("64 just fit", x.arrive(0, 64), 1);
        x.police(0, 0, 200, false);
        CHECK.due("the limit refuses what the policer let through", x.arrive(0, 100), -3);
        CHECK.due("the policer's tokens are gone", x.tokens(0, 2), 100000);
        CHECK.due("the policer refuses first", x.arrive(0, 101), -2);
        CHECK.due("its tokens stay", x.tokens(0, 2), 100000);
        x.police(0, 0, 0, true);
        CHECK.due("the limit refuses marked ones too", x.arrive(0, 64), -3);
        CHECK.due("about(0, 4)", x.about(0, 4), 1);
        CHECK.due("about(0, 5)", x.about(0, 5), 3);
        CHECK.due("refused ones have no number", x.count(2), 2);
        x.run(1);
        CHECK.due("what is on the link does not wait", x.about(0, 1), 64);
        CHECK.due("so there is room for 1436", x.arrive(0, 1436), 2);
        CHECK.due("and for no more", x.arrive(0, 64), -3);
    }

    /** Promise 5: the bound on packets lies behind the 512th call, but must not break. */
    private static void arriveAtMostThousand() {
        LinkShaper x = oneClass(0, 1000);
        for (int i = 0; i < 1000; i++) {
            CHECK.due("packet of number " + i, x.arrive(0, 64), i);
            x.run(64);
        }
        CHECK.due("a packet more", x.arrive(0, 64), LinkShaper.NONE);
        CHECK.due("count(2)", x.count(2), 1000);
    }

    /** Promise 6. */
    private static void runEdges() {
        LinkShaper x = oneClass(0, 1000);
        x.arrive(0, 64);
        for (int ticks : new int[] {0, -1, 100001, LOW, HIGH}) {
            CHECK.due("run(" + ticks + ")", x.run(ticks), LinkShaper.NONE);
            CHECK.due("now() after it", x.now(), 0);
            CHECK.due("count(3) after it", x.count(3), 0);
        }
        CHECK.due("run(1)", x.run(1), 1);
        CHECK.due("run(100000)", x.run(100000), 0);
        CHECK.due("now()", x.now(), 100001);
    }

    /** Promise 6: the last tick lies behind the 512th call, but must not break. */
    private static void runToTheLastTick() {
        LinkShaper x = oneClass(10, 10);
        for (int i = 0; i < 9999; i++) {
            x.run(100000);
        }
        CHECK.due("now()", x.now(), 999900000);
        x.arrive(0, 1500);
        x.arrive(0, 1500);
        CHECK.due("run(99999)", x.run(99999), 1);
        CHECK.due("its deadline", x.packet(0, 5), 1000050000);
        CHECK.due("run(2)", x.run(2), LinkShaper.NONE);
        CHECK.due("run(1)", x.run(1), 0);
        CHECK.due("now()", x.now(), 1000000000);
        CHECK.due("run(1)", x.run(1), LinkShaper.NONE);
        CHECK.due("now()", x.now(), 1000000000);
    }

    /** Promise 6. */
    private static void runCountsBegun() {
        LinkShaper x = oneClass(1000, 1000);
        for (int i = 0; i < 5; i++) {
            x.arrive(0, 100);
        }
        CHECK.due("run(100)", x.run(100), 1);
        CHECK.due("run(101)", x.run(101), 2);
        CHECK.due("run(99)", x.run(99), 0);
        CHECK.due("run(100000)", x.run(100000), 2);
        CHECK.due("run(100000)", x.run(100000), 0);
    }

    /** Promise 7. */
    private static void nowTells() {
        LinkShaper x = new LinkShaper();
        x.run(7);
        CHECK.due("now() without groups", x.now(), 7);
        x.group(1, 1000, 1500);
        x.leaf(0, 1, 0, 0, 1500, 60000);
        x.arrive(0, 1500);
        x.arrive(0, 1500);
        CHECK.due("now() after arrivals", x.now(), 7);
        x.run(100);
        CHECK.due("now() while the link is busy", x.now(), 107);
        x.run(3000);
        CHECK.due("now() while a packet is held for ever", x.now(), 3107);
    }

    /** Promise 8. */
    private static void packetFigures() {
        LinkShaper x = new LinkShaper();
        x.group(1, 1000, 20000);
        x.leaf(0, 1, 0, 1000, 20000, 60000);
        x.leaf(0, 1, 300, 1000, 20000, 60000);
        x.police(1, 0, 100, true);
        x.run(5);
        x.arrive(1, 100);
        x.arrive(1, 70);
        x.arrive(0, 900);
        x.run(200);
        rowOf(x, 0, new int[] {1, 100, 5, 5, 1, 339, 0});
        rowOf(x, 1, new int[] {1, 70, 5, 105, 2, -1, 1});
        rowOf(x, 2, new int[] {0, 900, 5, 175, 2, -1, 0});
        x.arrive(0, 64);
        rowOf(x, 3, new int[] {0, 64, 205, -1, 0, -1, 0});
        for (int k : new int[] {-1, 4, LOW, HIGH}) {
            rowOf(x, k, new int[] {-1, -1, -1, -1, -1, -1, -1});
        }
    }

    private static void rowOf(LinkShaper x, int k, int[] figures) {
        for (int what = 0; what < figures.length; what++) {
            CHECK.due("packet(" + k + ", " + what + ")", x.packet(k, what), figures[what]);
        }
        for (int what : new int[] {-1, 7, LOW, HIGH}) {
            CHECK.due("packet(" + k + ", " + what + ")", x.packet(k, what), LinkShaper.NONE);
        }
    }

    /** Promise 9. */
    private static void sentInOrder() {
        LinkShaper x = new LinkShaper();
        x.group(1, 1000, 20000);
        x.leaf(0, 1, 0, 1000, 20000, 60000);
        x.leaf(0, 1, 1000, 1000, 20000, 60000);
        x.arrive(0, 100);
        x.arrive(1, 100);
        x.arrive(1, 100);
        CHECK.due("sent(0) before any began", x.sent(0), LinkShaper.NONE);
        x.run(101);
        CHECK.due("sent(0)", x.sent(0), 1);
        CHECK.due("sent(1)", x.sent(1), 2);
        CHECK.due("sent(2)", x.sent(2), LinkShaper.NONE);
        x.run(100);
        CHECK.due("sent(2)", x.sent(2), 0);
        for (int i : new int[] {-1, 3, LOW, HIGH}) {
            CHECK.due("sent(" + i + ")", x.sent(i), LinkShaper.NONE);
        }
    }

    /** Promise 10. */
    private static void aboutFigures() {
        LinkShaper x = new LinkShaper();
        x.group(1, 1000, 20000);
        x.leaf(0, 1, 300, 1000, 20000, 1500);
        x.police(0, 0, 1800, false);
        x.arrive(0, 100);
        x.arrive(0, 200);
        x.arrive(0, 1000);
        x.arrive(0, 201);
        x.arrive(0, 400);
        x.arrive(0, 400);
        x.run(101);
        int[] figures = {1, 1000, 100, 200, 2, 1, 334, 0};
        for (int what = 0; what < figures.length; what++) {
            CHECK.due("about(0, " + what + ")", x.about(0, what), figures[what]);
        }
        for (int what : new int[] {-1, 8, LOW, HIGH}) {
            CHECK.due("about(0, " + what + ")", x.about(0, what), LinkShaper.NONE);
        }
        for (int leaf : new int[] {-1, 1, LOW, HIGH}) {
            CHECK.due("about(" + leaf + ", 0)", x.about(leaf, 0), LinkShaper.NONE);
        }
    }

    /** Promise 10, what 7: only in ticks that begin with a free link and nothing due. */
    private static void heldTicks() {
        LinkShaper x = new LinkShaper();
        x.group(1, 1000, 20000);
        x.leaf(0, 1, 0, 100, 1500, 60000);
        x.leaf(0, 1, 1000, 1000, 20000, 60000);
        x.leaf(0, 12, 0, 1000, 20000, 60000);
        x.arrive(0, 1500);
        x.arrive(0, 200);
        x.run(1500);
        CHECK.due("not held while the link is busy", x.about(0, 7), 0);
        CHECK.due("tokens(0, 0)", x.tokens(0, 0), 150000);
        x.arrive(1, 100);
        x.run(100);
        CHECK.due("not held while another is due", x.about(0, 7), 0);
        x.arrive(2, 100);
        x.run(100);
        CHECK.due("held in the tick in which another went as excess", x.about(0, 7), 1);
        x.run(299);
        CHECK.due("held in each idle tick", x.about(0, 7), 300);
        CHECK.due("a tick's tokens short", x.tokens(0, 0), 199900);
        CHECK.due("nothing goes", x.run(1), 0);
        CHECK.due("held once more", x.about(0, 7), 301);
        CHECK.due("it goes", x.run(1), 1);
        CHECK.due("not held when it goes", x.about(0, 7), 301);
        CHECK.due("a class is not held when it has tokens", x.about(2, 7), 0);
        x.run(10000);
        CHECK.due("nothing waits, nothing is held", x.about(0, 7), 301);
    }

    /** Promise 11. */
    private static void tokensFigures() {
        LinkShaper x = new LinkShaper();
        x.group(1, 500, 3000);
        x.leaf(0, 1, 0, 250, 2000, 60000);
        x.leaf(0, 1, 0, 250, 2000, 60000);
        x.police(0, 100, 1000, false);
        x.arrive(0, 1000);
        CHECK.due("a class's ceiling ahead of the tick", x.tokens(0, 0), 2000000);
        CHECK.due("its policer after the arrival", x.tokens(0, 2), 0);
        x.run(1);
        CHECK.due("a class's ceiling", x.tokens(0, 0), 1000250);
        CHECK.due("a group's ceiling", x.tokens(0, 1), 2000500);
        CHECK.due("a policer", x.tokens(0, 2), 100);
        CHECK.due("another class's ceiling is full", x.tokens(1, 0), 2000000);
        CHECK.due("no policer", x.tokens(1, 2), 0);
        x.run(3999);
        CHECK.due("a class's ceiling after 4000 ticks", x.tokens(0, 0), 2000000);
        CHECK.due("a group's ceiling after 4000 ticks", x.tokens(0, 1), 3000000);
        CHECK.due("a policer after 4000 ticks", x.tokens(0, 2), 400000);
        x.run(100000);
        CHECK.due("never more than the burst", x.tokens(0, 2), 1000000);
        CHECK.due("without such a group", x.tokens(1, 1), 0);
        for (int k : new int[] {-1, 2, LOW, HIGH}) {
            for (int what = 0; what < 3; what++) {
                CHECK.due("tokens(" + k + ", " + what + ")", x.tokens(k, what), 0);
            }
        }
        for (int what : new int[] {-1, 3, LOW, HIGH}) {
            CHECK.due("tokens(0, " + what + ")", x.tokens(0, what), 0);
        }
    }

    /** Promise 12. */
    private static void tagFigures() {
        LinkShaper x = new LinkShaper();
        x.group(5, 1000, 20000);
        x.leaf(0, 7, 0, 1000, 20000, 60000);
        x.leaf(0, 11, 0, 1000, 20000, 60000);
        x.arrive(0, 100);
        x.run(100);
        CHECK.due("a class's sum", x.tag(0, 0), 396000);
        CHECK.due("a group's sum", x.tag(0, 1), 554400);
        CHECK.due("a group's mark", x.tag(0, 2), 396000);
        CHECK.due("another class's sum", x.tag(1, 0), 0);
        for (int k : new int[] {0, 1, -1, 99, LOW, HIGH}) {
            CHECK.due("the link's mark, tag(" + k + ", 3)", x.tag(k, 3), 554400);
        }
        CHECK.due("without such a group", x.tag(1, 1) + x.tag(1, 2), 0);
        for (int k : new int[] {-1, 2, LOW, HIGH}) {
            for (int what = 0; what < 3; what++) {
                CHECK.due("tag(" + k + ", " + what + ")", x.tag(k, what), 0);
            }
        }
        for (int what : new int[] {-1, 4, LOW, HIGH}) {
            CHECK.due("tag(0, " + what + ")", x.tag(0, what), 0);
        }
    }

    /** Promise 13. */
    private static void countFigures() {
        LinkShaper x = new LinkShaper();
        x.group(1, 1000, 20000);
        x.group(1, 1000, 20000);
        for (int i = 0; i < 3; i++) {
            x.leaf(1, 1, 0, 1000, 20000, 1500);
        }
        x.arrive(1, 1400);
        x.arrive(1, 101);
        x.arrive(0, 100);
        x.run(10);
        x.run(89);
        countsAre(x, new int[] {2, 3, 2, 1, 99, 1});
        x.run(1);
        countsAre(x, new int[] {2, 3, 2, 1, 100, -1});
        x.run(1);
        countsAre(x, new int[] {2, 3, 2, 2, 101, 0});
        x.run(2000);
        countsAre(x, new int[] {2, 3, 2, 2, 1500, -1});
        for (int what : new int[] {-1, 6, LOW, HIGH}) {
            CHECK.due("count(" + what + ")", x.count(what), LinkShaper.NONE);
        }
    }

    private static void countsAre(LinkShaper x, int[] counts) {
        for (int what = 0; what < counts.length; what++) {
            CHECK.due("count(" + what + ") at " + x.now(), x.count(what), counts[what]);
        }
    }

    /** Promises 2 to 6: "and nothing happens"; and no question changes the object. */
    private static void wrongCallsChangeNothing() {
        LinkShaper x = new LinkShaper();
        x.group(3, 700, 3000);
        x.leaf(0, 2, 200, 400, 2000, 9000);
        x.leaf(0, 3, 0, 400, 2000, 9000);
        x.police(0, 100, 1000, true);
        x.arrive(0, 800);
        x.arrive(0, 800);
        x.arrive(1, 800);
        x.run(1000);
        String before = Snapshot.of(x);
        x.group(0, 1, 1500);
        x.leaf(2, 1, 0, 0, 1500, 1500);
        x.leaf(0, 1, 600, 600, 1500, 1500);
        x.police(0, 100, -1, false);
        x.police(2, 100, 100, false);
        x.arrive(0, 63);
        x.arrive(2, 64);
        x.run(0);
        x.run(100001);
        CHECK.due("all that it tells", Snapshot.of(x), before);
        CHECK.due("room for guarantees is as it was", x.leaf(0, 1, 500, 500, 1500, 1500), 2);
    }
}
