import java.util.ArrayDeque;
import java.util.ArrayList;
import java.util.Arrays;
import java.util.Deque;
import java.util.List;

/**
 * The terms of the document once more, in another form than the program's (objects that know each other, lists of
 * them, children in a list), to be held against it. It takes right calls only.
 */
final class PlainModel {
    static final class Spool {
        int number;
        int job;
        int state;
        int at;
        int value;
        int worked;
        int left = -1;
        int end = -1;
        Spool parent;
        Hand place;
        Hand blockedOn;
        final List<Spool> children = new ArrayList<>();
        final List<Spool> forked = new ArrayList<>();

        boolean over() {
            return state > 3;
        }

        boolean blocked() {
            return state == 2 || state == 3;
        }

        int work() {
            int sum = worked;
            for (Spool spool : forked) {
                sum += spool.work();
            }
            return sum;
        }

        void add(long n) {
            long sum = value + n;
            value = (int) (sum > 999999 ? 999999 : sum < -999999 ? -999999 : sum);
        }
    }

    static final class Hand {
        final Deque<Spool> row = new ArrayDeque<>();
        final Deque<Spool> stack = new ArrayDeque<>();
        final List<Integer> history = new ArrayList<>();
        int ran;
        int idle;
        int stole;
    }

    final List<List<int[]>> jobs = new ArrayList<>();
    final List<Spool> spools = new ArrayList<>();
    final List<Hand> hands = new ArrayList<>(List.of(new Hand()));
    final Deque<Spool> common = new ArrayDeque<>();
    final Integer[] kept = new Integer[6];
    int way;
    int theft;
    int clock;

    int addJob() {
        jobs.add(new ArrayList<>());
        return jobs.size() - 1;
    }

    int addStep(int job, int code, int n) {
        jobs.get(job).add(new int[] {code, n});
        return jobs.get(job).size();
    }

    boolean hasTaskOf(int job) {
        return spools.stream().anyMatch(spool -> spool.job == job);
    }

    boolean mayHaveWorkers(int count) {
        for (int h = count; h < hands.size(); h++) {
            Hand hand = hands.get(h);
            if (!hand.row.isEmpty() || !hand.stack.isEmpty()
                    || spools.stream().anyMatch(spool -> spool.blocked() && spool.blockedOn == hand)) {
                return false;
            }
        }
        return true;
    }

    int setWorkers(int count) {
        int before = hands.size();
        while (hands.size() > count) {
            hands.remove(hands.size() - 1);
        }
        while (hands.size() < count) {
            Hand hand = new Hand();
            for (int i = 0; i < clock; i++) {
                hand.history.add(-1);
            }
            hands.add(hand);
        }
        return before;
    }

    boolean anyOnStack() {
        return hands.stream().anyMatch(hand -> !hand.stack.isEmpty());
    }

    int submit(int job) {
        Spool spool = begin(job);
        common.addLast(spool);
        return spool.number;
    }

    private Spool begin(int job) {
        Spool spool = new Spool();
        spool.job = job;
        spool.number = spools.size();
        spools.add(spool);
        return spool;
    }

    int cancel(int number) {
        int before = cancelled();
        cancel(spools.get(number));
        return cancelled() - before;
    }

    private int cancelled() {
        return (int) spools.stream().filter(spool -> spool.state == 6).count();
    }

    private void cancel(Spool spool) {
        for (int i = spool.children.size() - 1; i >= 0; i--) {
            if (!spool.children.get(i).over()) {
                cancel(spool.children.get(i));
            }
        }
        over(spool, 6);
    }

    boolean keep(int promise, int number) {
        if (kept[promise] != null) {
            return false;
        }
        kept[promise] = number;
        for (Spool spool : spools) {
            if (spool.state == 3 && jobs.get(spool.job).get(spool.at)[1] == promise) {
                freed(spool);
            }
        }
        return true;
    }

    private void over(Spool spool, int state) {
        spool.state = state;
        spool.end = clock;
        common.remove(spool);
        for (Hand hand : hands) {
            hand.row.remove(spool);
            hand.stack.remove(spool);
        }
        spool.place = null;
        Spool parent = spool.parent;
        if (parent != null && parent.state == 2 && parent.children.get(parent.children.size() - 1) == spool) {
            freed(parent);
        }
    }

    private void freed(Spool spool) {
        if (spool.place != null) {
            spool.state = 1;
        } else {
            spool.state = 0;
            spool.blockedOn.row.addLast(spool);
        }
    }

    private void blocked(Spool spool, Hand hand, int state) {
        spool.state = state;
        spool.blockedOn = hand;
        if (way == 0) {
            hand.stack.removeLast();
            spool.place = null;
        }
    }

    int unfinished() {
        return (int) spools.stream().filter(spool -> !spool.over()).count();
    }

    /** One tick; answers whether any worker took, stole or went on. */
    boolean tick() {
        boolean moved = false;
        for (Hand hand : new ArrayList<>(hands)) {
            hand.history.add(-1);
            moved |= turn(hand);
        }
        clock++;
        return moved;
    }

    private boolean turn(Hand hand) {
        boolean moved = false;
        while (true) {
            if (hand.stack.isEmpty() || way == 2 && hand.stack.peekLast().blocked()) {
                Spool got = null;
                boolean stolen = false;
                if (!hand.row.isEmpty()) {
                    got = hand.row.removeLast();
                } else if (!common.isEmpty()) {
                    got = common.removeFirst();
                } else if (victim(hand) != null) {
                    got = victim(hand).row.removeFirst();
                    stolen = true;
                }
                if (got == null) {
                    hand.idle++;
                    return moved;
                }
                hand.stack.addLast(got);
                got.place = hand;
                got.state = 1;
                moved = true;
                if (stolen) {
                    hand.stole++;
                    return true;
                }
            }
            if (hand.stack.peekLast().blocked()) {
                hand.idle++;
                return moved;
            }
            moved = true;
            if (step(hand, hand.stack.peekLast())) {
                return true;
            }
        }
    }

    private Hand victim(Hand thief) {
        int own = hands.indexOf(thief);
        Hand found = null;
        if (theft == 0) {
            for (int i = hands.size() - 1; i >= 1; i--) {
                Hand hand = hands.get((own + i) % hands.size());
                found = hand.row.isEmpty() ? found : hand;
            }
        } else if (theft == 1) {
            for (int h = hands.size() - 1; h >= 0; h--) {
                Hand hand = hands.get(h);
                if (!hand.row.isEmpty() && (found == null || hand.row.size() >= found.row.size())) {
                    found = hand;
                }
            }
        }
        return found;
    }

    /** One step; answers whether it was work. */
    private boolean step(Hand hand, Spool spool) {
        List<int[]> script = jobs.get(spool.job);
        if (script.isEmpty()) {
            over(spool, 4);
            return false;
        }
        int code = script.get(spool.at)[0];
        int n = script.get(spool.at)[1];
        if (code == 0) {
            spool.left = spool.left < 0 ? n : spool.left;
            spool.left--;
            spool.worked++;
            hand.ran++;
            hand.history.set(clock, spool.number);
            if (spool.left == 0) {
                spool.left = -1;
                pass(spool);
            }
            return true;
        }
        if (code == 1 && spools.size() < 24) {
            Spool child = begin(n);
            child.parent = spool;
            spool.children.add(child);
            spool.forked.add(child);
            hand.row.addLast(child);
        }
        if (code == 2 || code == 3 || code == 4) {
            do {
                if (spool.children.isEmpty()) {
                    break;
                }
                Spool child = spool.children.get(spool.children.size() - 1);
                if (!child.over()) {
                    blocked(spool, hand, 2);
                    return false;
                }
                spool.children.remove(child);
                if (child.state == 5 && code != 4) {
                    over(spool, 5);
                    return false;
                }
                spool.add(child.state == 4 ? child.value : 0);
            } while (code == 3);
        }
        if (code == 5) {
            spool.add(n);
        }
        if (code == 6) {
            over(spool, 5);
            return false;
        }
        if (code == 7) {
            for (int i = spool.children.size() - 1; i >= 0; i--) {
                if (!spool.children.get(i).over()) {
                    cancel(spool.children.get(i));
                }
            }
        }
        if (code == 8) {
            if (kept[n] == null) {
                blocked(spool, hand, 3);
                return false;
            }
            spool.add(kept[n]);
        }
        if (code == 9) {
            keep(n, spool.value);
        }
        pass(spool);
        return false;
    }

    private void pass(Spool spool) {
        spool.at++;
        if (spool.at == jobs.get(spool.job).size()) {
            over(spool, 4);
        }
    }

    /** Whether all is halted, found by a tick of a copy in which nothing moves. */
    int halted() {
        if (unfinished() == 0 || copy().tick()) {
            return 0;
        }
        return 4 + (spools.stream().anyMatch(spool -> spool.state == 3) ? 1 : 0)
                + (spools.stream().anyMatch(spool -> spool.state == 0) ? 2 : 0);
    }

    PlainModel copy() {
        PlainModel other = new PlainModel();
        other.jobs.addAll(jobs);
        other.hands.clear();
        for (Hand hand : hands) {
            Hand twin = new Hand();
            twin.ran = hand.ran;
            twin.idle = hand.idle;
            twin.stole = hand.stole;
            twin.history.addAll(hand.history);
            other.hands.add(twin);
        }
        for (Spool spool : spools) {
            Spool twin = other.begin(spool.job);
            twin.state = spool.state;
            twin.at = spool.at;
            twin.value = spool.value;
            twin.worked = spool.worked;
            twin.left = spool.left;
            twin.end = spool.end;
            twin.parent = spool.parent == null ? null : other.spools.get(spool.parent.number);
            twin.place = spool.place == null ? null : other.hands.get(hands.indexOf(spool.place));
            int blockedOn = hands.indexOf(spool.blockedOn);
            twin.blockedOn = blockedOn < 0 ? null : other.hands.get(blockedOn);
        }
        for (Spool spool : spools) {
            Spool twin = other.spools.get(spool.number);
            spool.children.forEach(child -> twin.children.add(other.spools.get(child.number)));
            spool.forked.forEach(child -> twin.forked.add(other.spools.get(child.number)));
        }
        for (int h = 0; h < hands.size(); h++) {
            Hand twin = other.hands.get(h);
            hands.get(h).row.forEach(spool -> twin.row.addLast(other.spools.get(spool.number)));
            hands.get(h).stack.forEach(spool -> twin.stack.addLast(other.spools.get(spool.number)));
        }
        common.forEach(spool -> other.common.addLast(other.spools.get(spool.number)));
        System.arraycopy(kept, 0, other.kept, 0, 6);
        other.way = way;
        other.theft = theft;
        other.clock = clock;
        return other;
    }

    int overIn(int task, int ticks) {
        PlainModel ahead = copy();
        for (int k = 0; k <= ticks; k++) {
            if (ahead.spools.get(task).over()) {
                return k;
            }
            ahead.tick();
        }
        return -1;
    }

    int valueIn(int task, int ticks) {
        PlainModel ahead = copy();
        for (int k = 0; k < ticks; k++) {
            ahead.tick();
        }
        return ahead.spools.get(task).value;
    }

    int haltsIn(int ticks) {
        PlainModel ahead = copy();
        for (int k = 0; k <= ticks; k++) {
            if (ahead.halted() != 0) {
                return k;
            }
            ahead.tick();
        }
        return -1;
    }

    int alone(int job, int workers, int ofWay) {
        PlainModel fresh = new PlainModel();
        fresh.jobs.addAll(jobs);
        fresh.setWorkers(workers);
        fresh.way = ofWay;
        fresh.theft = theft;
        fresh.submit(job);
        for (int k = 1; k <= 60; k++) {
            fresh.tick();
            if (fresh.unfinished() == 0) {
                return k;
            }
        }
        return -1;
    }

    int ran(Hand hand, int back) {
        return back > clock ? -2 : hand.history.get(clock - back);
    }

    double load() {
        int ran = hands.stream().mapToInt(hand -> hand.ran).sum();
        int all = ran + hands.stream().mapToInt(hand -> hand.idle).sum();
        return all == 0 ? 0 : (double) ran / all;
    }

    /** All numbers of the checksum, in its order. */
    List<Integer> numbers() {
        List<Integer> all = new ArrayList<>(List.of(clock, spools.size(), hands.size(), halted()));
        for (Spool spool : spools) {
            int children = spool.children.stream().mapToInt(child -> 1 << child.number).sum();
            int step = spool.state == 4 ? jobs.get(spool.job).size() : spool.at;
            all.addAll(List.of(spool.state, spool.value, step, spool.parent == null ? -1 : spool.parent.number,
                    children, spool.work(), spool.end));
        }
        Arrays.stream(kept).forEach(number -> all.add(number == null ? -1000000 : number));
        all.add(common.size());
        common.forEach(spool -> all.add(spool.number));
        for (Hand hand : hands) {
            all.add(hand.row.size());
            hand.row.forEach(spool -> all.add(spool.number));
        }
        for (Hand hand : hands) {
            all.addAll(List.of(hand.stack.isEmpty() ? -1 : hand.stack.peekLast().number, hand.stack.size()));
            all.addAll(List.of(hand.ran, hand.idle, hand.stole, ran(hand, 1), ran(hand, 2), ran(hand, 3)));
        }
        return all;
    }

    long digest() {
        long d = 58063;
        for (int number : numbers()) {
            d = d * 31 + number;
        }
        return d;
    }
}
