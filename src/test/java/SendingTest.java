/** Which packet goes, and what becomes of clocks, sums and marks: part III of the terms (promises 5, 6, 12). */
public final class SendingTest {
    private static final Check CHECK = new Check("SendingTest");

    public static void main(String[] args) {
        leastDeadlineGoes();
        equalDeadlines();
        startIsClockOrArrival();
        deadlineIsRoundedUp();
        dueIgnoresCeilings();
        dueLeavesSums();
        excessLeavesClock();
        dueGoesAheadOfExcess();
        excessByWeightsInGroup();
        excessByWeightsOfGroups();
        equalTags();
        groupDecidesAfterClass();
        heldByClassOrGroup();
        heldOneLetsOthersGo();
        idleClassCatchesUp();
        idleGroupCatchesUp();
        groupCatchesUpAgain();
        refusedOneLeavesSums();
        busyClassDoesNotCatchUp();
        marksOnlyGrow();
        leapEndsWhenDue();
        leapEndsAtTheLaterCeiling();
        CHECK.end();
    }

    private static LinkShaper wide(int groups) {
        LinkShaper x = new LinkShaper();
        for (int i = 0; i < groups; i++) {
            CHECK.due("group(1, 1000, 20000)", x.group(1, 1000, 20000), i);
        }
        return x;
    }

    private static int wideLeaf(LinkShaper x, int group, int weight, int guarantee) {
        return x.leaf(group, weight, guarantee, 1000, 20000, 60000);
    }

    private static void sentIs(LinkShaper x, String told, int... numbers) {
        for (int i = 0; i < numbers.length; i++) {
            CHECK.due(told + ", sent(" + i + ")", x.sent(i), numbers[i]);
        }
        CHECK.due(told + ", sent(" + numbers.length + ")", x.sent(numbers.length), LinkShaper.NONE);
    }

    private static void leastDeadlineGoes() {
        LinkShaper x = wide(1);
        wideLeaf(x, 0, 1, 100);
        wideLeaf(x, 0, 1, 500);
        wideLeaf(x, 0, 1, 200);
        x.arrive(0, 100);
        x.arrive(1, 100);
        x.arrive(2, 64);
        x.run(300);
        sentIs(x, "by deadlines 1000, 200, 320", 1, 2, 0);
        CHECK.due("packet(0, 5)", x.packet(0, 5), 1000);
        CHECK.due("packet(1, 5)", x.packet(1, 5), 200);
        CHECK.due("packet(2, 5)", x.packet(2, 5), 320);
        CHECK.due("about(2, 6)", x.about(2, 6), 320);
    }

    private static void equalDeadlines() {
        LinkShaper x = wide(2);
        wideLeaf(x, 1, 1, 200);
        wideLeaf(x, 0, 1, 200);
        x.arrive(1, 100);
        x.arrive(0, 100);
        x.run(101);
        sentIs(x, "the class of the least number, whatever its group", 1, 0);
    }

    private static void startIsClockOrArrival() {
        LinkShaper x = wide(1);
        x.leaf(0, 1, 500, 500, 1500, 60000);
        x.arrive(0, 1500);
        x.arrive(0, 1500);
        x.run(3000);
        CHECK.due("the second one is not due before its start, nor let go by the ceiling", x.count(3), 1);
        CHECK.due("about(0, 7)", x.about(0, 7), 1500);
        CHECK.due("it is due in its start", x.run(1), 1);
        CHECK.due("packet(1, 4)", x.packet(1, 4), 1);
        CHECK.due("packet(1, 5)", x.packet(1, 5), 6000);
        x.run(6999);
        x.arrive(0, 100);
        x.run(1);
        CHECK.due("a start in the tick of the arrival", x.packet(2, 5), 10200);
    }

    private static void deadlineIsRoundedUp() {
        LinkShaper x = wide(1);
        wideLeaf(x, 0, 1, 300);
        wideLeaf(x, 0, 1, 30);
        x.arrive(0, 100);
        x.arrive(1, 90);
        x.run(200);
        CHECK.due("100000 by 300", x.packet(0, 5), 334);
        CHECK.due("90000 by 30", x.packet(1, 5), 3000);
    }

    private static void dueIgnoresCeilings() {
        LinkShaper x = new LinkShaper();
        x.group(1, 500, 1500);
        x.leaf(0, 1, 500, 500, 1500, 60000);
        x.leaf(0, 1, 0, 1000, 20000, 60000);
        x.arrive(1, 1500);
        x.run(1);
        x.arrive(0, 1500);
        x.run(1499);
        CHECK.due("the group's tokens", x.tokens(0, 1), 750000);
        CHECK.due("a due one goes all the same", x.run(1), 1);
        CHECK.due("below 0", x.tokens(0, 1), -749500);
        CHECK.due("the class's own", x.tokens(0, 0), 500);
        x.run(1499);
        CHECK.due("tokens come as ever", x.tokens(0, 1), 0);
    }

    private static void dueLeavesSums() {
        LinkShaper x = wide(1);
        wideLeaf(x, 0, 1, 1000);
        x.arrive(0, 100);
        x.run(100);
        CHECK.due("sent as due", x.packet(0, 4), 1);
        for (int what = 0; what <= 3; what++) {
            CHECK.due("tag(0, " + what + ")", x.tag(0, what), 0);
        }
    }

    private static void excessLeavesClock() {
        LinkShaper x = wide(1);
        wideLeaf(x, 0, 1, 100);
        x.arrive(0, 100);
        x.arrive(0, 200);
        x.run(300);
        CHECK.due("the second goes as excess", x.packet(1, 4), 2);
        CHECK.due("it has no deadline", x.packet(1, 5), LinkShaper.NONE);
        CHECK.due("the clock is the first one's deadline", x.about(0, 6), 1000);
        CHECK.due("bytes as due", x.about(0, 2), 100);
        CHECK.due("bytes as excess", x.about(0, 3), 200);
    }

    private static void dueGoesAheadOfExcess() {
        LinkShaper x = wide(2);
        wideLeaf(x, 0, 12, 0);
        wideLeaf(x, 1, 1, 10);
        x.arrive(0, 64);
        x.arrive(1, 1500);
        x.run(1501);
        sentIs(x, "due first", 1, 0);
    }

    private static void excessByWeightsInGroup() {
        LinkShaper x = wide(1);
        wideLeaf(x, 0, 1, 0);
        wideLeaf(x, 0, 3, 0);
        for (int i = 0; i < 4; i++) {
            x.arrive(0, 100);
            x.arrive(1, 100);
        }
        x.run(800);
        // Tags in class, by hundreds of 27720: class 0 1, 2, 3, 4; class 1 1/3, 2/3, 1, 4/3.
        sentIs(x, "one to three", 1, 3, 0, 5, 7, 2, 4, 6);
        CHECK.due("class 0's sum", x.tag(0, 0), 27720L * 400);
        CHECK.due("class 1's sum", x.tag(1, 0), 27720L * 400 / 3);
        CHECK.due("the group's mark", x.tag(0, 2), 27720L * 400);
        CHECK.due("the group's sum", x.tag(0, 1), 27720L * 800);
    }

    private static void excessByWeightsOfGroups() {
        LinkShaper x = new LinkShaper();
        x.group(2, 1000, 20000);
        x.group(4, 1000, 20000);
        wideLeaf(x, 0, 12, 0);
        wideLeaf(x, 1, 1, 0);
        for (int i = 0; i < 4; i++) {
            x.arrive(0, 100);
            x.arrive(1, 100);
        }
        x.run(501);
        // Tags in group, by hundreds of 27720: group 0 1/2, 1, ..; group 1 1/4, 1/2, 3/4, 1.
        sentIs(x, "two to four, whatever the classes' weights", 1, 0, 3, 5, 2, 7);
        CHECK.due("group 0's sum", x.tag(0, 1), 27720L * 100);
        CHECK.due("group 1's sum", x.tag(1, 1), 27720L * 100);
        CHECK.due("the link's mark", x.tag(0, 3), 27720L * 100);
    }

    private static void equalTags() {
        LinkShaper x = wide(2);
        wideLeaf(x, 1, 1, 0);
        wideLeaf(x, 0, 1, 0);
        wideLeaf(x, 0, 1, 0);
        x.arrive(2, 100);
        x.arrive(1, 100);
        x.arrive(0, 100);
        x.run(1);
        sentIs(x, "the group of the least number, in it the class of the least number", 1);
        x.run(100);
        sentIs(x, "then the other group", 1, 2);
    }

    private static void groupDecidesAfterClass() {
        LinkShaper x = wide(2);
        wideLeaf(x, 0, 12, 0);
        wideLeaf(x, 0, 1, 0);
        wideLeaf(x, 1, 1, 0);
        x.arrive(0, 1000);
        x.arrive(1, 90);
        x.arrive(2, 500);
        x.run(1);
        // Class 0's tag 1000/12 is below class 1's 90, so that the group stands with 1000 bytes against 500.
        sentIs(x, "the class's choice stands for its group", 2);
        x.run(500);
        sentIs(x, "then the group's choice", 2, 0);
    }

    private static void heldByClassOrGroup() {
        LinkShaper x = new LinkShaper();
        x.group(1, 0, 1500);
        x.group(1, 1000, 20000);
        x.leaf(0, 1, 0, 1000, 20000, 60000);
        x.leaf(1, 1, 0, 0, 1600, 60000);
        x.arrive(0, 1000);
        x.arrive(1, 1000);
        x.run(2000);
        x.arrive(0, 500);
        x.arrive(1, 601);
        CHECK.due("as many tokens as the packet costs are enough", x.run(500), 1);
        sentIs(x, "one token too few are not", 0, 1, 2);
        x.run(100);
        CHECK.due("held by the class", x.about(1, 7), 101);
        x.arrive(0, 64);
        x.run(100);
        CHECK.due("held by the group", x.about(0, 7), 100);
        CHECK.due("held by the class still", x.about(1, 7), 201);
        x.run(100000);
        CHECK.due("for ever", x.about(0, 7), 100100);
    }

    private static void heldOneLetsOthersGo() {
        LinkShaper x = wide(1);
        x.leaf(0, 12, 0, 0, 1500, 60000);
        wideLeaf(x, 0, 1, 0);
        x.arrive(0, 1500);
        x.run(1500);
        x.arrive(0, 64);
        x.arrive(0, 64);
        x.arrive(1, 1500);
        CHECK.due("a held class of the lesser tag", x.run(1500), 1);
        sentIs(x, "lets the other go", 0, 3);
        CHECK.due("about(0, 7)", x.about(0, 7), 1);
        CHECK.due("only the first packet of a class may go", x.run(5000), 0);
    }

    private static void idleClassCatchesUp() {
        LinkShaper x = wide(1);
        wideLeaf(x, 0, 1, 0);
        wideLeaf(x, 0, 1, 0);
        x.arrive(0, 100);
        x.arrive(0, 100);
        x.run(101);
        CHECK.due("class 1's sum while nothing came", x.tag(1, 0), 0);
        x.arrive(1, 100);
        CHECK.due("class 1's sum becomes the mark", x.tag(1, 0), 27720L * 200);
        CHECK.due("the group had nothing waiting: its sum is the link's mark", x.tag(0, 1), 27720L * 200);
        x.run(100);
        CHECK.due("class 1's sum", x.tag(1, 0), 27720L * 300);
        x.arrive(0, 100);
        CHECK.due("class 0's sum becomes the mark", x.tag(0, 0), 27720L * 300);
    }

    private static void idleGroupCatchesUp() {
        LinkShaper x = wide(2);
        wideLeaf(x, 0, 1, 0);
        wideLeaf(x, 1, 1, 0);
        wideLeaf(x, 1, 1, 0);
        x.arrive(0, 500);
        x.run(1);
        x.arrive(1, 1000);
        CHECK.due("group 1's sum becomes the link's mark", x.tag(1, 1), 27720L * 500);
        CHECK.due("class 1's sum stays at its group's mark", x.tag(1, 0), 0);
        CHECK.due("group 0's sum", x.tag(0, 1), 27720L * 500);
        x.arrive(0, 64);
        x.arrive(0, 64);
        x.run(499 + 128);
        CHECK.due("the link's mark", x.tag(0, 3), 27720L * 628);
        x.arrive(2, 100);
        CHECK.due("a group in which something waits does not catch up", x.tag(1, 1), 27720L * 500);
    }

    private static void groupCatchesUpAgain() {
        LinkShaper x = wide(2);
        wideLeaf(x, 0, 1, 0);
        wideLeaf(x, 1, 1, 0);
        x.arrive(1, 100);
        x.arrive(1, 100);
        x.run(200);
        x.arrive(0, 500);
        x.run(500);
        CHECK.due("group 1's sum", x.tag(1, 1), 27720L * 200);
        x.arrive(1, 64);
        CHECK.due("once nothing waits in it any more, it catches up again", x.tag(1, 1), 27720L * 700);
    }

    /** The document's "comes to a class" is read here as: comes to wait in it. */
    private static void refusedOneLeavesSums() {
        LinkShaper x = wide(2);
        wideLeaf(x, 0, 1, 0);
        wideLeaf(x, 0, 1, 0);
        wideLeaf(x, 1, 1, 0);
        x.arrive(0, 500);
        x.run(500);
        x.police(1, 0, 0, false);
        x.police(2, 0, 0, false);
        CHECK.due("refused by the policer", x.arrive(1, 64), -2);
        CHECK.due("its class's sum", x.tag(1, 0), 0);
        CHECK.due("refused by the policer", x.arrive(2, 64), -2);
        CHECK.due("its group's sum", x.tag(1, 1), 0);
    }

    private static void busyClassDoesNotCatchUp() {
        LinkShaper x = wide(1);
        x.leaf(0, 1, 0, 0, 1500, 60000);
        wideLeaf(x, 0, 1, 0);
        x.arrive(0, 1500);
        x.run(1500);
        x.arrive(0, 64);
        x.arrive(1, 1500);
        x.arrive(1, 1500);
        x.run(3000);
        CHECK.due("the group's mark", x.tag(0, 2), 27720L * 4500);
        x.arrive(0, 64);
        CHECK.due("the sum of a class in which something waits", x.tag(0, 0), 27720L * 1500);
    }

    /** Class 0, or its group, is held until tick 6400, while the others' tags go by. */
    private static void marksOnlyGrow() {
        LinkShaper x = wide(1);
        x.leaf(0, 1, 0, 10, 1500, 60000);
        wideLeaf(x, 0, 1, 0);
        lateSmallOne(x);
        CHECK.due("class 0's sum", x.tag(0, 0), 27720L * 1564);
        CHECK.due("its group's mark", x.tag(0, 2), 27720L * 4500);

        LinkShaper y = new LinkShaper();
        y.group(1, 10, 1500);
        y.group(1, 1000, 20000);
        wideLeaf(y, 0, 1, 0);
        wideLeaf(y, 1, 1, 0);
        lateSmallOne(y);
        CHECK.due("group 0's sum", y.tag(0, 1), 27720L * 1564);
        CHECK.due("the link's mark", y.tag(0, 3), 27720L * 4500);
    }

    private static void lateSmallOne(LinkShaper x) {
        x.arrive(0, 1500);
        x.run(1500);
        x.arrive(0, 64);
        x.arrive(1, 1500);
        x.arrive(1, 1500);
        x.run(10000);
        CHECK.due("the small one began", x.packet(1, 3), 6400);
    }

    private static void leapEndsWhenDue() {
        LinkShaper x = wide(1);
        x.leaf(0, 1, 10, 10, 1500, 60000);
        x.arrive(0, 1500);
        x.arrive(0, 1500);
        x.arrive(0, 64);
        x.run(100000);
        CHECK.due("150000 ticks by the guarantee, and as many for the ceiling", x.count(3), 1);
        CHECK.due("run(50000)", x.run(50000), 0);
        CHECK.due("run(1)", x.run(1), 1);
        CHECK.due("packet(1, 3)", x.packet(1, 3), 150000);
        CHECK.due("packet(1, 4)", x.packet(1, 4), 1);
        CHECK.due("about(0, 7)", x.about(0, 7), 148500);
    }

    private static void leapEndsAtTheLaterCeiling() {
        LinkShaper x = new LinkShaper();
        x.group(1, 300, 1500);
        x.leaf(0, 1, 0, 700, 1500, 60000);
        x.leaf(0, 1, 0, 7, 1500, 60000);
        x.arrive(0, 1500);
        x.arrive(0, 1000);
        x.run(100000);
        // 1000000 thousandths at 300 a tick are there after 3334 ticks, at 700 already after 1429.
        CHECK.due("the group's ceiling is the later one", x.packet(1, 3), 3334);
        x.arrive(1, 1500);
        x.arrive(1, 100);
        x.run(100000);
        CHECK.due("the class's ceiling is the later one", x.packet(3, 3), 100000 + 14286);
    }
}
