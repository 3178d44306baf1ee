/** All that an object answers without being changed, as one text. */
final class Snapshot {

    private Snapshot() {
    }

    static String of(LinkShaper x) {
        StringBuilder text = new StringBuilder();
        text.append("now ").append(x.now()).append("\ncount");
        for (int what = -1; what <= 6; what++) {
            text.append(' ').append(x.count(what));
        }
        for (int leaf = -1; leaf <= x.count(1); leaf++) {
            text.append("\nabout ").append(leaf);
            for (int what = -1; what <= 8; what++) {
                text.append(' ').append(x.about(leaf, what));
            }
        }
        for (int k = -1; k <= Math.max(x.count(0), x.count(1)); k++) {
            text.append("\ntokens ").append(k);
            for (int what = -1; what <= 3; what++) {
                text.append(' ').append(x.tokens(k, what));
            }
            text.append("\ntag ").append(k);
            for (int what = -1; what <= 4; what++) {
                text.append(' ').append(x.tag(k, what));
            }
        }
        for (int k = -1; k <= x.count(2); k++) {
            text.append("\npacket ").append(k);
            for (int what = -1; what <= 7; what++) {
                text.append(' ').append(x.packet(k, what));
            }
        }
        for (int i = -1; i <= x.count(3); i++) {
            text.append("\nsent ").append(i).append(' ').append(x.sent(i));
        }
        return text.append('\n').append(outside(x)).toString();
    }

    /** Numbers far outside: none of them may throw. */
    private static String outside(LinkShaper x) {
        StringBuilder text = new StringBuilder("outside");
        for (int k : new int[] {Integer.MIN_VALUE, 1000, Integer.MAX_VALUE}) {
            text.append(' ').append(x.about(k, 0)).append(' ').append(x.about(0, k));
            text.append(' ').append(x.packet(k, 0)).append(' ').append(x.packet(0, k));
            text.append(' ').append(x.tokens(k, 0)).append(' ').append(x.tokens(k, 1));
            text.append(' ').append(x.tokens(k, 2)).append(' ').append(x.tokens(0, k));
            text.append(' ').append(x.tag(k, 0)).append(' ').append(x.tag(k, 1));
            text.append(' ').append(x.tag(k, 2)).append(' ').append(x.tag(k, 3)).append(' ').append(x.tag(0, k));
            text.append(' ').append(x.sent(k)).append(' ').append(x.count(k));
        }
        return text.toString();
    }
}
