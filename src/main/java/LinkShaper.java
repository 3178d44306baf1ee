import java.util.ArrayList;

/**
 * A shaper of one link: what is due by a guarantee goes first, by deadlines; what is left of the
 * link is shared by weights, group by group and within a group, as far as ceilings let.
 */
public final class LinkShaper {
    public static final int NONE = -1;

    private static final int REFUSED_BY_POLICER = -2;
    private static final int REFUSED_BY_LIMIT = -3;

    private static final int MOST_GROUPS = 4;
    private static final int MOST_LEAVES = 8;
    private static final int MOST_PACKETS = 1000;
    private static final int MOST_WEIGHT = 12;
    private static final int FULL_RATE = 1000;
    private static final int LEAST_GUARANTEE = 10;
    private static final int LEAST_CEILING_BURST = 1500;
    private static final int MOST_BURST = 20000;
    private static final int LEAST_LIMIT = 1500;
    private static final int MOST_LIMIT = 60000;
    private static final int LEAST_SIZE = 64;
    private static final int MOST_SIZE = 1500;
    private static final int MOST_TICKS_A_RUN = 100000;
    private static final int LAST_TICK = 1000000000;

    /** Behind every tick that can be reached. */
    private static final int NEVER = 2000000000;
    private static final int THOUSANDTHS = 1000;
    /** All weights divide it, so that tags are whole numbers. */
    private static final long TAG_SCALE = 27720L;

    private static final int WAITS = 0;
    private static final int SENT_AS_DUE = 1;
    private static final int SENT_AS_EXCESS = 2;

    private final ArrayList<Group> groups;
    private final ArrayList<Leaf> leaves;
    private final ArrayList<Packet> packets;
    private final ArrayList<Packet> begun;
    private int tick;
    /** The first tick in which the link is free again. */
    private int freeAt;
    private int busyTicks;
    private int guarantees;
    private long mark;

    public LinkShaper() {
        groups = new ArrayList<>();
        leaves = new ArrayList<>();
        packets = new ArrayList<>();
        begun = new ArrayList<>();
        tick = 0;
        freeAt = 0;
        busyTicks = 0;
        guarantees = 0;
        mark = 0;
    }

    public int group(int weight, int ceiling, int burst) {
        if (groups.size() >= MOST_GROUPS || !isWeight(weight) || !isCeiling(ceiling, burst)) {
            return NONE;
        }
        groups.add(new Group(weight, new Bucket(ceiling, burst)));
        return groups.size() - 1;
    }

    public int leaf(int group, int weight, int guarantee, int ceiling, int burst, int limit) {
        Group home = groupAt(group);
        if (home == null || leaves.size() >= MOST_LEAVES) {
            return NONE;
        }
        if (!isWeight(weight) || !isCeiling(ceiling, burst) || !isWithin(limit, LEAST_LIMIT, MOST_LIMIT)) {
            return NONE;
        }
        if (!isGuarantee(guarantee) || guarantee > ceiling || !hasRoomFor(guarantee, home)) {
            return NONE;
        }
        leaves.add(new Leaf(home, weight, guarantee, new Bucket(ceiling, burst), limit));
        home.guarantees += guarantee;
        guarantees += guarantee;
        return leaves.size() - 1;
    }

    public boolean police(int leaf, int rate, int burst, boolean marks) {
        Leaf policed = leafAt(leaf);
        if (policed == null || !isWithin(rate, 0, FULL_RATE) || !isWithin(burst, 0, MOST_BURST)) {
            return false;
        }
        policed.policer = new Bucket(rate, burst);
        policed.marks = marks;
        return true;
    }

    public int arrive(int leaf, int size) {
        Leaf target = leafAt(leaf);
        if (target == null || !isWithin(size, LEAST_SIZE, MOST_SIZE) || packets.size() >= MOST_PACKETS) {
            return NONE;
        }
        boolean conforms = target.paysPolicer(size);
        if (!conforms && !target.marks) {
            target.refusedByPolicer++;
            return REFUSED_BY_POLICER;
        }
        if (size > target.limit - target.bytes) {
            target.refusedByLimit++;
            return REFUSED_BY_LIMIT;
        }
        Packet packet = new Packet(packets.size(), leaf, size, tick, !conforms);
        target.catchUp(mark);
        target.append(packet);
        packets.add(packet);
        return packet.number;
    }

    public int run(int ticks) {
        if (!isWithin(ticks, 1, MOST_TICKS_A_RUN) || tick > LAST_TICK - ticks) {
            return NONE;
        }
        int begunBefore = begun.size();
        int end = tick + ticks;
        // Each turn leaps over at least one tick: over all those in which nothing is decided.
        for (int turn = 0; turn < ticks && tick < end; turn++) {
            if (tick >= freeAt) {
                beginOne();
            }
            if (tick < freeAt) {
                passBusy(Math.min(freeAt, end) - tick);
            } else {
                passIdle(Math.min(ticksUntilOneMayGo(), end - tick));
            }
        }
        return begun.size() - begunBefore;
    }

    public int now() {
        return tick;
    }

    public int packet(int k, int what) {
        if (k < 0 || k >= packets.size()) {
            return NONE;
        }
        return packets.get(k).figure(what);
    }

    public int sent(int i) {
        if (i < 0 || i >= begun.size()) {
            return NONE;
        }
        return begun.get(i).number;
    }

    public int about(int leaf, int what) {
        Leaf asked = leafAt(leaf);
        return asked == null ? NONE : asked.figure(what);
    }

    public long tokens(int k, int what) {
        Leaf leaf = leafAt(k);
        Group group = groupAt(k);
        switch (what) {
            case 0:
                return leaf == null ? 0 : leaf.ceiling.level;
            case 1:
                return group == null ? 0 : group.ceiling.level;
            case 2:
                return leaf == null || leaf.policer == null ? 0 : leaf.policer.level;
            default:
                return 0;
        }
    }

    public long tag(int k, int what) {
        Leaf leaf = leafAt(k);
        Group group = groupAt(k);
        switch (what) {
            case 0:
                return leaf == null ? 0 : leaf.sum;
            case 1:
                return group == null ? 0 : group.sum;
            case 2:
                return group == null ? 0 : group.mark;
            case 3:
                return mark;
            default:
                return 0;
        }
    }

    public int count(int what) {
        switch (what) {
            case 0:
                return groups.size();
            case 1:
                return leaves.size();
            case 2:
                return packets.size();
            case 3:
                return begun.size();
            case 4:
                return busyTicks;
            case 5:
                return tick < freeAt ? sent(begun.size() - 1) : NONE;
            default:
                return NONE;
        }
    }

    private static boolean isWithin(int value, int least, int most) {
        return value >= least && value <= most;
    }

    private static boolean isWeight(int weight) {
        return isWithin(weight, 1, MOST_WEIGHT);
    }

    private static boolean isCeiling(int rate, int burst) {
        return isWithin(rate, 0, FULL_RATE) && isWithin(burst, LEAST_CEILING_BURST, MOST_BURST);
    }

    private static boolean isGuarantee(int rate) {
        return rate == 0 || isWithin(rate, LEAST_GUARANTEE, FULL_RATE);
    }

    private boolean hasRoomFor(int guarantee, Group home) {
        return guarantee <= FULL_RATE - guarantees && guarantee <= home.ceiling.rate - home.guarantees;
    }

    private Group groupAt(int k) {
        return k < 0 || k >= groups.size() ? null : groups.get(k);
    }

    private Leaf leafAt(int k) {
        return k < 0 || k >= leaves.size() ? null : leaves.get(k);
    }

    private void beginOne() {
        Leaf due = pickDue();
        if (due != null) {
            putOnLink(due.sendDue(tick));
            return;
        }
        Leaf excess = pickExcess();
        if (excess != null) {
            // The tokens that are about to go would hold others that are not held in this tick.
            countHeld(1);
            mark = Math.max(mark, excess.tagInGroup());
            putOnLink(excess.sendExcess(tick));
        }
    }

    private void putOnLink(Packet packet) {
        if (packet != null) {
            begun.add(packet);
            freeAt = tick + packet.size;
        }
    }

    private Leaf pickDue() {
        Leaf best = null;
        for (int i = 0; i < leaves.size(); i++) {
            Leaf leaf = leaves.get(i);
            if (leaf.start() <= tick && (best == null || leaf.deadline() < best.deadline())) {
                best = leaf;
            }
        }
        return best;
    }

    private Leaf pickExcess() {
        Leaf best = null;
        for (int i = 0; i < groups.size(); i++) {
            Leaf leaf = pickExcessOf(groups.get(i));
            if (leaf != null && (best == null || leaf.tagInGroup() < best.tagInGroup())) {
                best = leaf;
            }
        }
        return best;
    }

    private Leaf pickExcessOf(Group group) {
        Leaf best = null;
        for (int i = 0; i < leaves.size(); i++) {
            Leaf leaf = leaves.get(i);
            if (leaf.group == group && leaf.isReady() && (best == null || leaf.tagInLeaf() < best.tagInLeaf())) {
                best = leaf;
            }
        }
        return best;
    }

    private int ticksUntilOneMayGo() {
        long least = NEVER;
        for (int i = 0; i < leaves.size(); i++) {
            least = Math.min(least, leaves.get(i).ticksUntilMayGo(tick));
        }
        return (int) least;
    }

    private void passBusy(int ticks) {
        busyTicks += ticks;
        pass(ticks);
    }

    private void passIdle(int ticks) {
        countHeld(ticks);
        pass(ticks);
    }

    private void countHeld(int ticks) {
        for (int i = 0; i < leaves.size(); i++) {
            Leaf leaf = leaves.get(i);
            if (leaf.isHeld()) {
                leaf.heldTicks += ticks;
            }
        }
    }

    private void pass(int ticks) {
        for (int i = 0; i < groups.size(); i++) {
            groups.get(i).ceiling.fill(ticks);
        }
        for (int i = 0; i < leaves.size(); i++) {
            Leaf leaf = leaves.get(i);
            leaf.ceiling.fill(ticks);
            if (leaf.policer != null) {
                leaf.policer.fill(ticks);
            }
        }
        tick += ticks;
    }

    /** Tokens, in thousandths of bytes, that come at a rate up to a burst. */
    private static final class Bucket {
        final int rate;
        final long most;
        long level;

        Bucket(int rate, int burst) {
            this.rate = rate;
            this.most = (long) THOUSANDTHS * burst;
            this.level = most;
        }

        void fill(int ticks) {
            level = Math.min(most, level + (long) rate * ticks);
        }

        boolean covers(int size) {
            return level >= (long) THOUSANDTHS * size;
        }

        void take(int size) {
            level -= (long) THOUSANDTHS * size;
        }

        /** Of a ceiling: its burst is never less than a packet, so only a rate of 0 keeps it short for ever. */
        long ticksUntilCovers(int size) {
            long lacking = (long) THOUSANDTHS * size - level;
            if (lacking <= 0) {
                return 0;
            }
            return rate <= 0 ? NEVER : (lacking + rate - 1) / rate;
        }
    }

    private static final class Group {
        final int weight;
        final Bucket ceiling;
        int guarantees;
        int waiting;
        long sum;
        long mark;

        Group(int weight, Bucket ceiling) {
            this.weight = weight;
            this.ceiling = ceiling;
        }

        long tagOf(int size) {
            return weight <= 0 ? sum : sum + TAG_SCALE * size / weight;
        }
    }

    private static final class Packet {
        final int number;
        final int leaf;
        final int size;
        final int came;
        final boolean marked;
        int began;
        int way;
        int deadline;
        /** The one that waits behind it in its class. */
        Packet next;

        Packet(int number, int leaf, int size, int came, boolean marked) {
            this.number = number;
            this.leaf = leaf;
            this.size = size;
            this.came = came;
            this.marked = marked;
            this.began = NONE;
            this.way = WAITS;
            this.deadline = NONE;
        }

        int figure(int what) {
            switch (what) {
                case 0:
                    return leaf;
                case 1:
                    return size;
                case 2:
                    return came;
                case 3:
                    return began;
                case 4:
                    return way;
                case 5:
                    return deadline;
                case 6:
                    return marked ? 1 : 0;
                default:
                    return NONE;
            }
        }
    }

    /** A class of the document; a name of its own, because Java has classes too. */
    private static final class Leaf {
        final Group group;
        final int weight;
        final int guarantee;
        final Bucket ceiling;
        final int limit;
        Bucket policer;
        boolean marks;
        Packet first;
        Packet last;
        int waiting;
        int bytes;
        int dueBytes;
        int excessBytes;
        int refusedByPolicer;
        int refusedByLimit;
        int clock;
        int heldTicks;
        long sum;

        Leaf(Group group, int weight, int guarantee, Bucket ceiling, int limit) {
            this.group = group;
            this.weight = weight;
            this.guarantee = guarantee;
            this.ceiling = ceiling;
            this.limit = limit;
        }

        boolean paysPolicer(int size) {
            if (policer == null) {
                return true;
            }
            if (!policer.covers(size)) {
                return false;
            }
            policer.take(size);
            return true;
        }

        /** Who was idle gets no credit for it: its sums go up to what others have reached meanwhile. */
        void catchUp(long linkMark) {
            if (first == null) {
                sum = Math.max(sum, group.mark);
            }
            if (group.waiting == 0) {
                group.sum = Math.max(group.sum, linkMark);
            }
        }

        void append(Packet packet) {
            if (last == null) {
                first = packet;
            } else {
                last.next = packet;
            }
            last = packet;
            waiting++;
            bytes += packet.size;
            group.waiting++;
        }

        /** NEVER if nothing waits or nothing is guaranteed: such a class is not due in any tick. */
        int start() {
            return first == null || guarantee <= 0 ? NEVER : Math.max(clock, first.came);
        }

        int deadline() {
            if (first == null || guarantee <= 0) {
                return NEVER;
            }
            return start() + (THOUSANDTHS * first.size + guarantee - 1) / guarantee;
        }

        boolean isReady() {
            return first != null && ceiling.covers(first.size) && group.ceiling.covers(first.size);
        }

        boolean isHeld() {
            return first != null && !isReady();
        }

        long tagInLeaf() {
            return first == null || weight <= 0 ? sum : sum + TAG_SCALE * first.size / weight;
        }

        long tagInGroup() {
            return first == null ? group.sum : group.tagOf(first.size);
        }

        long ticksUntilMayGo(int tick) {
            if (first == null) {
                return NEVER;
            }
            long untilReady = Math.max(ceiling.ticksUntilCovers(first.size), group.ceiling.ticksUntilCovers(first.size));
            return Math.min(start() - tick, untilReady);
        }

        Packet sendDue(int tick) {
            int deadline = deadline();
            Packet packet = removeFirst(tick);
            if (packet != null) {
                packet.way = SENT_AS_DUE;
                packet.deadline = deadline;
                clock = deadline;
                dueBytes += packet.size;
            }
            return packet;
        }

        Packet sendExcess(int tick) {
            long newSum = tagInLeaf();
            long newGroupSum = tagInGroup();
            Packet packet = removeFirst(tick);
            if (packet != null) {
                packet.way = SENT_AS_EXCESS;
                sum = newSum;
                group.mark = Math.max(group.mark, newSum);
                group.sum = newGroupSum;
                excessBytes += packet.size;
            }
            return packet;
        }

        private Packet removeFirst(int tick) {
            Packet packet = first;
            if (packet == null) {
                return null;
            }
            first = packet.next;
            if (first == null) {
                last = null;
            }
            packet.next = null;
            packet.began = tick;
            waiting--;
            bytes -= packet.size;
            group.waiting--;
            ceiling.take(packet.size);
            group.ceiling.take(packet.size);
            return packet;
        }

        int figure(int what) {
            switch (what) {
                case 0:
                    return waiting;
                case 1:
                    return bytes;
                case 2:
                    return dueBytes;
                case 3:
                    return excessBytes;
                case 4:
                    return refusedByPolicer;
                case 5:
                    return refusedByLimit;
                case 6:
                    return clock;
                case 7:
                    return heldTicks;
                default:
                    return NONE;
            }
        }
    }
}
