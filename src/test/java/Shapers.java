/** Objects to test with. */
final class Shapers {
    static final int NONE = LinkShaper.NONE;
    static final int LOW = Integer.MIN_VALUE;
    static final int HIGH = Integer.MAX_VALUE;

    private Shapers() {
    }

    /** Groups of weight 1 whose ceilings are as fast as the link, so that they hold nothing. */
    static LinkShaper wide(int groups) {
        LinkShaper x = new LinkShaper();
        for (int i = 0; i < groups; i++) {
            x.group(1, 1000, 20000);
        }
        return x;
    }

    /** A class whose ceiling holds nothing, and whose limit refuses nothing that these tests send. */
    static int wideLeaf(LinkShaper x, int group, int weight, int guarantee) {
        return x.leaf(group, weight, guarantee, 1000, 20000, 60000);
    }

    /** One wide group with one wide class without a guarantee. */
    static LinkShaper wideClass() {
        LinkShaper x = wide(1);
        wideLeaf(x, 0, 1, 0);
        return x;
    }

    /** One wide group with one class of this ceiling and of the least burst, without a guarantee. */
    static LinkShaper slowClass(int ceiling) {
        LinkShaper x = wide(1);
        x.leaf(0, 1, 0, ceiling, 1500, 60000);
        return x;
    }

    /** One group of this ceiling and of the least burst, with one wide class without a guarantee. */
    static LinkShaper slowGroup(int ceiling) {
        LinkShaper x = new LinkShaper();
        x.group(1, ceiling, 1500);
        wideLeaf(x, 0, 1, 0);
        return x;
    }

    static void arriveTimes(LinkShaper x, int times, int leaf, int size) {
        for (int i = 0; i < times; i++) {
            x.arrive(leaf, size);
        }
    }

    /** The numbers of the packets that began, in their order. */
    static String sent(LinkShaper x) {
        StringBuilder numbers = new StringBuilder();
        for (int i = 0; i < x.count(3); i++) {
            numbers.append(i == 0 ? "" : " ").append(x.sent(i));
        }
        return numbers.toString();
    }

    /** All that packet(k, what) tells of a packet, what 0 to 6. */
    static String packet(LinkShaper x, int k) {
        StringBuilder figures = new StringBuilder();
        for (int what = 0; what <= 6; what++) {
            figures.append(what == 0 ? "" : " ").append(x.packet(k, what));
        }
        return figures.toString();
    }

    /** All that about(leaf, what) tells of a class, what 0 to 7. */
    static String about(LinkShaper x, int leaf) {
        StringBuilder figures = new StringBuilder();
        for (int what = 0; what <= 7; what++) {
            figures.append(what == 0 ? "" : " ").append(x.about(leaf, what));
        }
        return figures.toString();
    }

    /** All that count(what) tells, what 0 to 5. */
    static String count(LinkShaper x) {
        StringBuilder figures = new StringBuilder();
        for (int what = 0; what <= 5; what++) {
            figures.append(what == 0 ? "" : " ").append(x.count(what));
        }
        return figures.toString();
    }
}
