import java.util.ArrayDeque;
import java.util.ArrayList;
import java.util.List;

/**
 * The document word by word, one tick after the other. LinkShaper leaps over ticks in which nothing
 * is decided; this does not, so that the two can be held against each other.
 */
final class TickModel {
    static final class Tub {
        final int rate;
        final int burst;
        long tokens;

        Tub(int rate, int burst) {
            this.rate = rate;
            this.burst = burst;
            this.tokens = 1000L * burst;
        }

        void tick() {
            tokens += rate;
            if (tokens > 1000L * burst) {
                tokens = 1000L * burst;
            }
        }
    }

    static final class Family {
        int weight;
        Tub tub;
        long sum;
        long mark;
        final List<Kind> kinds = new ArrayList<>();

        boolean isEmpty() {
            return kinds.stream().allMatch(kind -> kind.queue.isEmpty());
        }
    }

    static final class Kind {
        int number;
        Family family;
        int weight;
        int guarantee;
        Tub tub;
        int limit;
        Tub policer;
        boolean marks;
        final ArrayDeque<int[]> queue = new ArrayDeque<>();
        int[] figures = new int[8];
        long sum;
    }

    final List<Family> families = new ArrayList<>();
    final List<Kind> kinds = new ArrayList<>();
    /** Each: class, size, came, began, way, deadline, marked, number. */
    final List<int[]> packets = new ArrayList<>();
    final List<int[]> sent = new ArrayList<>();
    int tick = 0;
    int[] onLink = null;
    int bytesToGo = 0;
    int busy = 0;
    long mark = 0;

    int group(int weight, int ceiling, int burst) {
        if (families.size() == 4 || outside(weight, 1, 12) || outside(ceiling, 0, 1000) || outside(burst, 1500, 20000)) {
            return -1;
        }
        Family family = new Family();
        family.weight = weight;
        family.tub = new Tub(ceiling, burst);
        families.add(family);
        return families.size() - 1;
    }

    int leaf(int group, int weight, int guarantee, int ceiling, int burst, int limit) {
        if (kinds.size() == 8 || outside(group, 0, families.size() - 1) || outside(weight, 1, 12)
                || guarantee != 0 && outside(guarantee, 10, 1000) || outside(ceiling, guarantee, 1000)
                || outside(burst, 1500, 20000) || outside(limit, 1500, 60000)) {
            return -1;
        }
        Family family = families.get(group);
        if (guarantees(kinds) + guarantee > 1000 || guarantees(family.kinds) + guarantee > family.tub.rate) {
            return -1;
        }
        Kind kind = new Kind();
        kind.number = kinds.size();
        kind.family = family;
        kind.weight = weight;
        kind.guarantee = guarantee;
        kind.tub = new Tub(ceiling, burst);
        kind.limit = limit;
        kinds.add(kind);
        family.kinds.add(kind);
        return kind.number;
    }

    boolean police(int leaf, int rate, int burst, boolean marks) {
        if (outside(leaf, 0, kinds.size() - 1) || outside(rate, 0, 1000) || outside(burst, 0, 20000)) {
            return false;
        }
        kinds.get(leaf).policer = new Tub(rate, burst);
        kinds.get(leaf).marks = marks;
        return true;
    }

    int arrive(int leaf, int size) {
        if (outside(leaf, 0, kinds.size() - 1) || outside(size, 64, 1500) || packets.size() == 1000) {
            return -1;
        }
        Kind kind = kinds.get(leaf);
        int marked = 0;
        if (kind.policer != null) {
            if (kind.policer.tokens >= 1000L * size) {
                kind.policer.tokens -= 1000L * size;
            } else if (kind.marks) {
                marked = 1;
            } else {
                kind.figures[4]++;
                return -2;
            }
        }
        if (bytesOf(kind) + size > kind.limit) {
            kind.figures[5]++;
            return -3;
        }
        if (kind.queue.isEmpty() && kind.sum < kind.family.mark) {
            kind.sum = kind.family.mark;
        }
        if (kind.family.isEmpty() && kind.family.sum < mark) {
            kind.family.sum = mark;
        }
        int[] packet = {leaf, size, tick, -1, 0, -1, marked, packets.size()};
        packets.add(packet);
        kind.queue.add(packet);
        return packet[7];
    }

    int run(int ticks) {
        if (outside(ticks, 1, 100000) || tick + ticks > 1000000000) {
            return -1;
        }
        int before = sent.size();
        for (int i = 0; i < ticks; i++) {
            oneTick();
        }
        return sent.size() - before;
    }

    private void oneTick() {
        if (onLink == null && !beginDue()) {
            beginExcess();
        }
        if (onLink != null) {
            busy++;
            bytesToGo--;
            if (bytesToGo == 0) {
                onLink = null;
            }
        }
        for (Family family : families) {
            family.tub.tick();
        }
        for (Kind kind : kinds) {
            kind.tub.tick();
            if (kind.policer != null) {
                kind.policer.tick();
            }
        }
        tick++;
    }

    private boolean beginDue() {
        Kind best = null;
        int least = 0;
        for (Kind kind : kinds) {
            if (kind.guarantee == 0 || kind.queue.isEmpty()) {
                continue;
            }
            int[] packet = kind.queue.peek();
            int start = Math.max(kind.figures[6], packet[2]);
            int deadline = start + (int) Math.ceil(1000.0 * packet[1] / kind.guarantee);
            if (start <= tick && (best == null || deadline < least)) {
                best = kind;
                least = deadline;
            }
        }
        if (best == null) {
            return false;
        }
        best.figures[6] = least;
        best.queue.peek()[5] = least;
        begin(best, 1);
        return true;
    }

    private void beginExcess() {
        Kind best = null;
        long least = 0;
        for (Family family : families) {
            Kind choice = null;
            for (Kind kind : family.kinds) {
                if (kind.queue.isEmpty()) {
                    continue;
                }
                long cost = 1000L * kind.queue.peek()[1];
                if (kind.tub.tokens < cost || family.tub.tokens < cost) {
                    kind.figures[7]++;
                } else if (choice == null || tagInClass(kind) < tagInClass(choice)) {
                    choice = kind;
                }
            }
            if (choice != null && (best == null || tagInGroup(choice) < least)) {
                best = choice;
                least = tagInGroup(choice);
            }
        }
        if (best == null) {
            return;
        }
        best.sum = tagInClass(best);
        best.family.mark = Math.max(best.family.mark, best.sum);
        best.family.sum = least;
        mark = Math.max(mark, least);
        begin(best, 2);
    }

    private void begin(Kind kind, int way) {
        int[] packet = kind.queue.remove();
        packet[3] = tick;
        packet[4] = way;
        kind.figures[way + 1] += packet[1];
        kind.tub.tokens -= 1000L * packet[1];
        kind.family.tub.tokens -= 1000L * packet[1];
        onLink = packet;
        bytesToGo = packet[1];
        sent.add(packet);
    }

    private static long tagInClass(Kind kind) {
        return kind.sum + 27720L * kind.queue.peek()[1] / kind.weight;
    }

    private static long tagInGroup(Kind kind) {
        return kind.family.sum + 27720L * kind.queue.peek()[1] / kind.family.weight;
    }

    private static int guarantees(List<Kind> kinds) {
        return kinds.stream().mapToInt(kind -> kind.guarantee).sum();
    }

    private static int bytesOf(Kind kind) {
        return kind.queue.stream().mapToInt(packet -> packet[1]).sum();
    }

    private static boolean outside(int value, int least, int most) {
        return value < least || value > most;
    }

    int count(int what) {
        int[] counts = {families.size(), kinds.size(), packets.size(), sent.size(), busy, onLink == null ? -1 : onLink[7]};
        return outside(what, 0, 5) ? -1 : counts[what];
    }

    int packet(int k, int what) {
        return outside(k, 0, packets.size() - 1) || outside(what, 0, 6) ? -1 : packets.get(k)[what];
    }

    int sent(int i) {
        return outside(i, 0, sent.size() - 1) ? -1 : sent.get(i)[7];
    }

    int about(int leaf, int what) {
        if (outside(leaf, 0, kinds.size() - 1) || outside(what, 0, 7)) {
            return -1;
        }
        Kind kind = kinds.get(leaf);
        kind.figures[0] = kind.queue.size();
        kind.figures[1] = bytesOf(kind);
        return kind.figures[what];
    }

    long tokens(int k, int what) {
        boolean isKind = !outside(k, 0, kinds.size() - 1);
        if (what == 0 && isKind) {
            return kinds.get(k).tub.tokens;
        }
        if (what == 1 && !outside(k, 0, families.size() - 1)) {
            return families.get(k).tub.tokens;
        }
        return what == 2 && isKind && kinds.get(k).policer != null ? kinds.get(k).policer.tokens : 0;
    }

    long tag(int k, int what) {
        if (what == 3) {
            return mark;
        }
        if (what == 0 && !outside(k, 0, kinds.size() - 1)) {
            return kinds.get(k).sum;
        }
        if (what < 1 || what > 2 || outside(k, 0, families.size() - 1)) {
            return 0;
        }
        return what == 1 ? families.get(k).sum : families.get(k).mark;
    }
}
