import java.util.Random;

/**
 * What the document says of every pool, whatever was called: each run calls by dice (always the same ones), asks what
 * would be, looks at all, lets the ticks go by and looks whether it came so. A run takes fewer than 512 calls.
 */
public final class AlwaysTest {
    private static final int RUNS = 3000;
    private static final int CALLS = 40;

    private final String name;
    private final Random dice;
    private final BobbinPool x = new BobbinPool();
    private int jobs;
    /** Asked once, so that a run stays within its 512 calls. */
    private int[] states;
    private int[] parents;
    private int[] children;
    /** Of a worker that went, told() is gone, too. */
    private boolean workersWent;
    private boolean alwaysFree = true;

    private AlwaysTest(int seed) {
        name = "run " + seed + ": ";
        dice = new Random(seed);
    }

    public static void main(String[] args) {
        for (int seed = 0; seed < RUNS; seed++) {
            AlwaysTest run = begun(seed);
            run.rowsHoldReadyTasks();
            run.stacksHoldRunningOrBlockedTasks();
            run.tasksFitTheirStates();
            run.childrenFitTheirParents();
            run.workIsToldOfBothSides();
            run.workersFitTheClock();
            run.haltedFitsTheStates();
            // The same once more, so that no pool gets more than 512 calls.
            begun(seed).haltedIsToStandStill();
            begun(seed).itComesAsItWouldBe();
        }
        Due.end();
    }

    private static AlwaysTest begun(int seed) {
        AlwaysTest run = new AlwaysTest(seed);
        run.begin();
        run.askTasks();
        return run;
    }

    private void holds(String what, boolean is) {
        Due.is(name + what + " holds", is ? 1 : 0, 1);
    }

    // ---- the calls

    private void begin() {
        jobs = 1 + dice.nextInt(5);
        for (int j = 0; j < jobs; j++) {
            x.addJob();
        }
        for (int j = 0; j < jobs; j++) {
            int steps = dice.nextInt(8);
            for (int i = 0; i < steps; i++) {
                addStep(j);
            }
        }
        setWorkers(1 + dice.nextInt(5));
        setWay(dice.nextInt(3), dice.nextInt(3));
        submit(dice.nextInt(jobs));
        for (int i = 0; i < CALLS; i++) {
            call(dice.nextInt(12));
        }
    }

    private void call(int kind) {
        switch (kind) {
            case 0, 1 -> submit(dice.nextInt(jobs));
            case 2 -> setWorkers(1 + dice.nextInt(5));
            case 3 -> setWay(dice.nextInt(3), dice.nextInt(3));
            case 4 -> Twin.thrown(x, p -> p.cancel(dice.nextInt(24)));
            case 5 -> x.keep(dice.nextInt(6), dice.nextInt(1999) - 999);
            default -> x.tick(1 + dice.nextInt(2));
        }
    }

    private void addStep(int job) {
        int code = dice.nextInt(10);
        int n = code == 0 ? 1 + dice.nextInt(4) : code == 1 ? dice.nextInt(jobs)
                : code == 5 ? dice.nextInt(201) - 100 : dice.nextInt(6);
        x.addStep(job, code, n);
    }

    private void submit(int job) {
        Twin.thrown(x, p -> p.submit(job));
    }

    private void setWorkers(int count) {
        boolean set = Twin.thrown(x, p -> workersWent |= p.setWorkers(count) > count) == null;
        holds("setWorkers() sets what workers() tells", !set || x.workers() == count);
    }

    private void setWay(int way, int theft) {
        if (Twin.thrown(x, p -> p.setWay(way, theft)) == null) {
            alwaysFree &= way == Due.FREE;
        }
    }

    // ---- what always holds

    private void askTasks() {
        int tasks = x.tasks();
        states = new int[tasks];
        parents = new int[tasks];
        children = new int[tasks];
        for (int t = 0; t < tasks; t++) {
            states[t] = x.stateOf(t);
            parents[t] = x.parentOf(t);
            children[t] = x.childrenOf(t);
        }
    }

    private int count(int state) {
        int count = 0;
        for (int told : states) {
            count += told == state ? 1 : 0;
        }
        return count;
    }

    private void rowsHoldReadyTasks() {
        int inRows = 0;
        int all = 0;
        for (int w = -1; w < x.workers(); w++) {
            int size = x.row(w);
            all += size;
            for (int place = 0; place < size; place++) {
                int task = x.inRow(w, place);
                holds("a task in a row is ready, " + task, states[task] == Due.READY);
                inRows |= 1 << task;
            }
        }
        holds("no task is in two rows", Integer.bitCount(inRows) == all);
        holds("each ready task is in a row", all == count(Due.READY));
    }

    private void stacksHoldRunningOrBlockedTasks() {
        int all = 0;
        int tops = 0;
        for (int w = 0; w < x.workers(); w++) {
            int size = x.stack(w);
            int top = x.top(w);
            all += size;
            holds("there is a top if there is a stack", top >= 0 == size > 0);
            if (top >= 0) {
                int state = states[top];
                holds("a top is running or blocked", state >= Due.RUNNING && state <= Due.AWAITING);
                holds("no task is on two tops", (tops >> top & 1) == 0);
                tops |= 1 << top;
            }
        }
        int running = count(Due.RUNNING);
        int blocked = count(Due.JOINING) + count(Due.AWAITING);
        holds("each running task is on a stack", running <= all);
        holds("stacks hold running and blocked tasks alone", all <= running + (alwaysFree ? 0 : blocked));
    }

    private void tasksFitTheirStates() {
        for (int t = 0; t < states.length; t++) {
            boolean over = isOver(t);
            int overAt = x.overAt(t);
            holds("a state is 0 to 6", states[t] >= 0 && states[t] <= 6);
            holds("overAt() is of those that are over", over ? overAt >= 0 && overAt <= x.clock() : overAt == -1);
            holds("values are kept in bounds", Math.abs(x.valueOf(t)) <= 999999);
        }
    }

    private boolean isOver(int task) {
        return states[task] >= Due.DONE;
    }

    private void childrenFitTheirParents() {
        for (int t = 0; t < states.length; t++) {
            int parent = parents[t];
            holds("parents come first", parent >= -1 && parent < t);
            boolean joined = parent >= 0 && (children[parent] >> t & 1) == 0;
            holds("only one that is over is joined", !joined || isOver(t));
            for (int c = 0; children[t] >> c != 0; c++) {
                holds("a child has its parent", (children[t] >> c & 1) == 0 || parents[c] == t);
            }
            int last = 31 - Integer.numberOfLeadingZeros(children[t]);
            holds("a joining task waits for a child", states[t] != Due.JOINING || last >= 0 && !isOver(last));
        }
    }

    private void workIsToldOfBothSides() {
        int work = 0;
        for (int t = 0; t < states.length; t++) {
            work += parents[t] < 0 ? x.workOf(t) : 0;
        }
        int ran = 0;
        for (int w = 0; w < x.workers(); w++) {
            ran += x.told(w, 0);
        }
        holds("what workers ran is what tasks were run", workersWent ? ran <= work : ran == work);
    }

    private void workersFitTheClock() {
        int ran = 0;
        int all = 0;
        for (int w = 0; w < x.workers(); w++) {
            int told = x.told(w, 0) + x.told(w, 1);
            ran += x.told(w, 0);
            all += told;
            int turns = told + x.told(w, 2);
            holds("each tick a worker runs, is idle or steals", w == 0 ? turns == x.clock() : turns <= x.clock());
            int latest = x.ran(w, 1);
            boolean none = x.clock() == 0;
            holds("ran() tells a task, or none", none ? latest == -2 : latest >= -1 && latest < x.tasks());
        }
        Due.isReal(name + "load()", x.load(), all == 0 ? 0 : (double) ran / all);
    }

    private void haltedFitsTheStates() {
        int halted = x.halted();
        int kind = 4 + (count(Due.AWAITING) > 0 ? 1 : 0) + (count(Due.READY) > 0 ? 2 : 0);
        holds("halted() tells why", halted == 0 || halted == kind);
        holds("running tasks, if all is halted, are none", halted == 0 || count(Due.RUNNING) <= countBelowTops());
        holds("haltsIn() tells it, too", x.haltsIn(1) == 0 == (halted != 0));
    }

    /** Tasks on stacks but not on top: freed ones there are running, but go on only as they are the top. */
    private int countBelowTops() {
        int count = 0;
        for (int w = 0; w < x.workers(); w++) {
            count += Math.max(0, x.stack(w) - 1);
        }
        return count;
    }

    private void haltedIsToStandStill() {
        String before = whatIsDone();
        int halted = x.halted();
        int left = x.tick(1);
        boolean still = whatIsDone().equals(before);
        holds("a tick does nothing if all is halted", still || halted == 0);
        holds("all is halted, or over, if a tick does nothing", !still || halted != 0 || left == 0);
        holds("all stays halted", halted == 0 || x.halted() == halted);
        holds("if all is halted, a task is not over", halted == 0 || left > 0);
    }

    /** All that changes if a worker takes, steals or goes on with anything. */
    private String whatIsDone() {
        StringBuilder done = new StringBuilder();
        for (int t = 0; t < x.tasks(); t++) {
            done.append(x.stateOf(t)).append(' ').append(x.stepOf(t)).append(' ').append(x.childrenOf(t)).append(' ');
        }
        for (int w = 0; w < x.workers(); w++) {
            done.append(x.told(w, 0)).append(' ').append(x.told(w, 2)).append(' ');
        }
        return done.toString();
    }

    // ---- what would be, comes

    private void itComesAsItWouldBe() {
        if (x.tasks() == 0) {
            return;
        }
        int task = dice.nextInt(x.tasks());
        int ticks = 1 + dice.nextInt(12);
        int over = x.overIn(task, ticks);
        int value = x.valueIn(task, ticks);
        int halts = x.haltsIn(ticks);
        int overAt = x.overAt(task);
        int clock = x.clock();
        long before = x.digest();
        int haltedBehind = x.halted() != 0 ? 0 : -1;
        for (int i = 1; i <= ticks; i++) {
            x.tick(1);
            haltedBehind = haltedBehind < 0 && x.halted() != 0 ? i : haltedBehind;
        }
        holds("ticks change a pool", x.digest() != before);
        holds("the clock counts the ticks", x.clock() == clock + ticks);
        Due.is(name + "valueOf() behind so many ticks", x.valueOf(task), value);
        Due.is(name + "haltsIn()", halts, haltedBehind);
        int want = overAt >= 0 ? 0 : x.overAt(task) >= 0 ? x.overAt(task) - clock + 1 : -1;
        Due.is(name + "overIn()", over, want);
    }
}
