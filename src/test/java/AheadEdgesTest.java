import java.math.BigInteger;
import java.util.Collections;

/** Promises 29 to 33 at their edges: each sentence that names one has a test of its own. */
public final class AheadEdgesTest {
    private static final int MIN = Integer.MIN_VALUE;
    private static final int MAX = Integer.MAX_VALUE;
    private static final int[] WRONG_TICKS = {MIN, -1, 0, 61, MAX};

    public static void main(String[] args) {
        overInFromOneToSixty();
        overInBetweenTwoWorks();
        overInOfTheFirstTick();
        overInOfOneThatIsOver();
        overInOfNone();
        overInOfEachWorker();
        valueInFromOneToSixty();
        valueInUpToTheEdge();
        valueInOfOneThatIsOver();
        valueInOfNone();
        aheadForksUpToTwentyFour();
        haltsInFromOneToSixty();
        haltsInOfHaltedOnes();
        haltsInOfNone();
        haltsInAsAllWouldBeOver();
        aloneUpToSixty();
        aloneOfEachJob();
        aloneWithOneToFiveWorkers();
        aloneWithEachWay();
        aloneWithEachTheft();
        aloneWithoutPromises();
        aloneTillAllAreOver();
        aloneUpToTwentyFour();
        aloneWhateverThereIs();
        aloneNamesTheJobFirst();
        askingChangesNothing();
        digestOfANewPool();
        digestOfFullPools();
        digestTickByTick();
        Due.end();
    }

    /** A script that runs for so many ticks, 1 to 80. */
    private static String work(int ticks) {
        StringBuilder script = new StringBuilder();
        for (int left = ticks; left > 0; left -= 20) {
            script.append(script.length() == 0 ? "" : ", ").append("work ").append(Math.min(left, 20));
        }
        return script.toString();
    }

    private static BobbinPool one(String... scripts) {
        BobbinPool x = Due.pool(scripts);
        x.submit(0);
        return x;
    }

    // ---- promise 29

    private static void overInFromOneToSixty() {
        for (int ticks : new int[] {1, 2, 20, 21, 40, 41, 59, 60, 61}) {
            BobbinPool x = one(work(ticks));
            Due.is("overIn(0, 60) of " + ticks, x.overIn(0, 60), ticks <= 60 ? ticks : -1);
            if (ticks <= 60) {
                Due.is("overIn(0, " + ticks + ")", x.overIn(0, ticks), ticks);
            }
            if (ticks > 1) {
                Due.is("overIn(0, " + (ticks - 1) + ")", x.overIn(0, ticks - 1), -1);
                x.tick(1);
                Due.is("overIn(0, 60) a tick later", x.overIn(0, 60), ticks - 1);
            }
        }
        for (int ticks : WRONG_TICKS) {
            Twin.refuses("overIn(0, " + ticks + ")", () -> one(work(5)), Due.ARGUMENT, x -> x.overIn(0, ticks));
        }
    }

    private static void overInBetweenTwoWorks() {
        BobbinPool x = one("work 3, work 5, await 0");
        BobbinPool y = one("work 3, work 5, add 2");
        for (int ticks = 0; ticks < 8; ticks++) {
            Due.is("haltsIn(60) behind " + ticks, x.haltsIn(60), 9 - ticks);
            Due.is("overIn(0, 60) behind " + ticks, y.overIn(0, 60), 9 - ticks);
            Due.is("valueIn(0, " + (9 - ticks) + ") behind " + ticks, y.valueIn(0, 9 - ticks), 2);
            Due.is("valueIn(0, " + (8 - ticks) + ") behind " + ticks, y.valueIn(0, 8 - ticks), 0);
            x.tick(1);
            y.tick(1);
        }
    }

    private static void overInOfTheFirstTick() {
        for (String script : new String[] {"", "add 1", "fail", "work 1"}) {
            BobbinPool x = one(script);
            Due.is("overIn(0, 1) of " + script, x.overIn(0, 1), 1);
            Due.is("overIn(0, 60) of " + script, x.overIn(0, 60), 1);
        }
        BobbinPool x = Due.pool("work 9", "fork 0, work 1, stop, work 1");
        x.submit(1);
        x.tick(1);
        Due.is("overIn(1, 1) of one that is cancelled", x.overIn(1, 1), 1);
    }

    private static void overInOfOneThatIsOver() {
        BobbinPool x = Due.pool("work 1", "fail", "await 0");
        x.submit(0);
        x.submit(1);
        x.submit(2);
        x.tick(2);
        x.cancel(2);
        for (int task = 0; task < 3; task++) {
            for (int ticks : new int[] {1, 60}) {
                Due.is("overIn(" + task + ", " + ticks + ")", x.overIn(task, ticks), 0);
            }
        }
        Twin.Maker over = () -> {
            BobbinPool y = one("add 1");
            y.tick(1);
            return y;
        };
        for (int ticks : WRONG_TICKS) {
            Twin.refuses("overIn(0, " + ticks + ") of one that is over", over, Due.ARGUMENT, y -> y.overIn(0, ticks));
        }
    }

    private static void overInOfNone() {
        for (int count : new int[] {0, 1, 24}) {
            Twin.Maker maker = () -> {
                BobbinPool x = Due.pool("fork 0, await 0");
                for (int i = 0; i < count; i++) {
                    x.submit(0);
                }
                return x;
            };
            for (int task : new int[] {MIN, -1, count, 24, MAX}) {
                for (int ticks : new int[] {MIN, 0, 1, 60, 61, MAX}) {
                    Twin.refuses("overIn(" + task + ", " + ticks + ") of " + count, maker, Due.INDEX,
                            x -> x.overIn(task, ticks));
                }
            }
        }
        Due.is("overIn(0, 60) of one that waits for ever", one("await 0").overIn(0, 60), -1);
    }

    private static void overInOfEachWorker() {
        BobbinPool x = Due.pool(5, Due.FREE, 2, "work 1", "work 2", "work 3", "work 4", "work 5", "work 20");
        for (int job = 0; job < 5; job++) {
            x.submit(job);
        }
        x.submit(5);
        for (int task = 0; task < 5; task++) {
            Due.is("overIn(" + task + ", 60)", x.overIn(task, 60), task + 1);
        }
        Due.is("overIn(5, 60), behind the task 0", x.overIn(5, 60), 21);
        Due.is("overIn(5, 21), behind the task 0", x.overIn(5, 21), 21);
        Due.is("overIn(5, 20), behind the task 0", x.overIn(5, 20), -1);
    }

    // ---- promise 30

    private static void valueInFromOneToSixty() {
        BobbinPool x = one("add 1, work 1, add 10, work 20, work 20, work 18, add 100, work 1, add 50, work 1");
        int[] ticks = {1, 2, 58, 59, 60};
        int[] values = {1, 11, 11, 11, 111};
        for (int i = 0; i < ticks.length; i++) {
            Due.is("valueIn(0, " + ticks[i] + ")", x.valueIn(0, ticks[i]), values[i]);
        }
        x.tick(1);
        Due.is("valueIn(0, 59) a tick later", x.valueIn(0, 59), 111);
        Due.is("valueIn(0, 60) a tick later", x.valueIn(0, 60), 161);
        for (int wrong : WRONG_TICKS) {
            Twin.refuses("valueIn(0, " + wrong + ")", () -> one("add 1, work 2"), Due.ARGUMENT,
                    y -> y.valueIn(0, wrong));
        }
    }

    private static void valueInUpToTheEdge() {
        for (int sign = -1; sign <= 1; sign += 2) {
            BobbinPool x = Due.pool(times("await 0") + ", keep 1", times("await 1") + ", keep 2",
                    times("await 2") + ", await 0, add " + sign);
            x.keep(0, 999 * sign);
            for (int job = 0; job < 3; job++) {
                x.submit(job);
            }
            Due.is("valueIn(0, 1)", x.valueIn(0, 1), 9990 * sign);
            Due.is("valueIn(1, 1)", x.valueIn(1, 1), 99900 * sign);
            Due.is("valueIn(2, 1), that is cut", x.valueIn(2, 1), 999999 * sign);
            Due.is("promise(1), not kept by that", x.promise(1), -1000000);
        }
    }

    private static String times(String step) {
        return String.join(", ", Collections.nCopies(10, step));
    }

    private static void valueInOfOneThatIsOver() {
        BobbinPool x = Due.pool("add 7, fork 1, join", "add 5, await 0");
        x.submit(0);
        x.tick(1);
        x.cancel(1);
        x.cancel(0);
        Due.is("valueIn(0, 1) of a cancelled one", x.valueIn(0, 1), 7);
        Due.is("valueIn(0, 60) of a cancelled one", x.valueIn(0, 60), 7);
        Due.is("valueIn(1, 60) of a cancelled one", x.valueIn(1, 60), 5);
        Due.is("valueIn(0, 60) of one that waits for ever", one("add 3, await 0").valueIn(0, 60), 3);
    }

    private static void valueInOfNone() {
        for (int count : new int[] {0, 1, 24}) {
            Twin.Maker maker = () -> {
                BobbinPool x = Due.pool("fork 0, await 0");
                for (int i = 0; i < count; i++) {
                    x.submit(0);
                }
                return x;
            };
            for (int task : new int[] {MIN, -1, count, 24, MAX}) {
                for (int ticks : new int[] {MIN, 0, 1, 60, 61, MAX}) {
                    Twin.refuses("valueIn(" + task + ", " + ticks + ") of " + count, maker, Due.INDEX,
                            x -> x.valueIn(task, ticks));
                }
            }
        }
    }

    private static void aheadForksUpToTwentyFour() {
        BobbinPool x = Due.pool("add 1", "fork 0, fork 0, joinall, work 1");
        for (int i = 0; i < 22; i++) {
            x.submit(0);
        }
        x.submit(1);
        Due.is("valueIn(22, 60), with the 24th alone", x.valueIn(22, 60), 1);
        Due.is("overIn(22, 60)", x.overIn(22, 60), 1);
        Due.is("tasks()", x.tasks(), 23);
        Due.is("submit(0) of the 24th", x.submit(0), 23);
        Due.is("valueIn(22, 60), with no room", x.valueIn(22, 60), 0);
    }

    // ---- promise 31

    private static void haltsInFromOneToSixty() {
        for (int ticks : new int[] {1, 2, 40, 41, 59, 60, 61}) {
            BobbinPool x = one(ticks == 1 ? "await 0" : work(ticks - 1) + ", await 0");
            Due.is("haltsIn(60) of " + ticks, x.haltsIn(60), ticks <= 60 ? ticks : -1);
            if (ticks <= 60) {
                Due.is("haltsIn(" + ticks + ")", x.haltsIn(ticks), ticks);
            }
            if (ticks > 1) {
                Due.is("haltsIn(" + (ticks - 1) + ")", x.haltsIn(ticks - 1), -1);
                x.tick(1);
                Due.is("haltsIn(60) a tick later", x.haltsIn(60), ticks - 1);
            }
        }
        for (int ticks : WRONG_TICKS) {
            Twin.refuses("haltsIn(" + ticks + ")", () -> one("work 3, await 0"), Due.ARGUMENT, x -> x.haltsIn(ticks));
            Twin.refuses("haltsIn(" + ticks + ") of a new pool", BobbinPool::new, Due.ARGUMENT, x -> x.haltsIn(ticks));
        }
    }

    private static BobbinPool halted() {
        BobbinPool x = one("await 0");
        x.tick(1);
        return x;
    }

    private static void haltsInOfHaltedOnes() {
        Due.is("haltsIn(1)", halted().haltsIn(1), 0);
        Due.is("haltsIn(60)", halted().haltsIn(60), 0);
        for (int ticks : WRONG_TICKS) {
            Twin.refuses("haltsIn(" + ticks + ") of a halted one", AheadEdgesTest::halted, Due.ARGUMENT,
                    x -> x.haltsIn(ticks));
        }
        BobbinPool x = halted();
        x.keep(0, 0);
        Due.is("haltsIn(60) as it is freed", x.haltsIn(60), -1);
    }

    private static void haltsInOfNone() {
        BobbinPool x = new BobbinPool();
        Due.is("haltsIn(1) of a new pool", x.haltsIn(1), -1);
        Due.is("haltsIn(60) of a new pool", x.haltsIn(60), -1);
    }

    private static void haltsInAsAllWouldBeOver() {
        Due.is("haltsIn(60) of one that ends", one("work 3").haltsIn(60), -1);
        Due.is("haltsIn(60) of one that fails", one("work 3, fail").haltsIn(60), -1);
        // The first one waits for the second one, that keeps what it waits for.
        BobbinPool x = Due.pool("await 0", "work 3, keep 0");
        x.submit(0);
        x.submit(1);
        Due.is("haltsIn(60) of two that end", x.haltsIn(60), -1);
    }

    // ---- promise 32

    private static void aloneUpToSixty() {
        for (int ticks : new int[] {1, 2, 20, 21, 59, 60, 61, 80}) {
            Due.is("alone(0, 1, 0) of " + ticks, Due.pool(work(ticks)).alone(0, 1, 0), ticks <= 60 ? ticks : -1);
        }
        Due.is("alone(0, 1, 0) without steps", Due.pool("").alone(0, 1, 0), 1);
        Due.is("alone(0, 1, 0) of one that fails", Due.pool("work 2, fail").alone(0, 1, 0), 3);
        Due.is("alone(0, 1, 0) of one that waits for ever", Due.pool("await 0").alone(0, 1, 0), -1);
    }

    private static void aloneOfEachJob() {
        String[] scripts = new String[8];
        for (int job = 0; job < 8; job++) {
            scripts[job] = "work " + (job + 3);
        }
        BobbinPool x = Due.pool(scripts);
        for (int job = 0; job < 8; job++) {
            Due.is("alone(" + job + ", 1, 0)", x.alone(job, 1, 0), job + 3);
        }
        for (int job : new int[] {MIN, -1, 8, MAX}) {
            Twin.refuses("alone(" + job + ", 1, 0) of eight", () -> Due.pool(scripts), Due.INDEX,
                    y -> y.alone(job, 1, 0));
        }
        Twin.refuses("alone(0, 1, 0) of none", BobbinPool::new, Due.INDEX, y -> y.alone(0, 1, 0));
    }

    private static void aloneWithOneToFiveWorkers() {
        // Four children of ten ticks, forked at once. The others steal one each in the first tick, and begin with it
        // in the second one; the worker 0 takes another one then. Of two workers the second one steals again in the
        // tick 11, and works in the ticks 12 to 21.
        BobbinPool x = Due.pool("fork 1, fork 1, fork 1, fork 1, work 1", "work 10");
        int[] due = {41, 22, 21, 11, 11};
        for (int workers = 1; workers <= 5; workers++) {
            Due.is("alone(0, " + workers + ", 0)", x.alone(0, workers, 0), due[workers - 1]);
            Due.is("workers()", x.workers(), 1);
        }
        for (int workers : new int[] {MIN, -1, 0, 6, MAX}) {
            Twin.refuses("alone(0, " + workers + ", 0)", () -> Due.pool("work 1"), Due.ARGUMENT,
                    y -> y.alone(0, workers, 0));
        }
    }

    private static void aloneWithEachWay() {
        BobbinPool x = Due.pool("fork 1, join, work 1", "work 2");
        int[] due = {3, -1, 3};
        for (int way = 0; way <= 2; way++) {
            Due.is("alone(0, 1, " + way + ")", x.alone(0, 1, way), due[way]);
            Due.is("setWay(" + way + ", 0), as it was", x.setWay(0, 0), 0);
        }
        // With HELP the child of the child lies above its parent; with FREE the parent goes on first.
        for (int way : new int[] {MIN, -1, 3, MAX}) {
            Twin.refuses("alone(0, 1, " + way + ")", () -> Due.pool("work 1"), Due.ARGUMENT, y -> y.alone(0, 1, way));
        }
    }

    /** Behind how many ticks all are over in a pool that goes on itself; -1 if not within 60. */
    private static int ticksTillOver(BobbinPool x) {
        for (int ticks = 1; ticks <= 60; ticks++) {
            if (x.tick(1) == 0) {
                return ticks;
            }
        }
        return -1;
    }

    private static void aloneWithEachTheft() {
        // In the tick 6 the workers 0 and 2 have a task in their rows, each, and the worker 1 steals: with theft 0 of
        // the worker 2, so that the worker 0 finds its own one in the tick 7; with theft 1 of the worker 0, so that
        // this has to steal a tick later; with theft 2 the worker 0 does all alone.
        String[] scripts = {"fork 2, fork 1, fork 1", "fork 2, work 7", "work 5"};
        int[] due = {12, 13, 29};
        for (int theft = 0; theft <= 2; theft++) {
            BobbinPool x = Due.pool(scripts);
            x.setWay(Due.HOLD, theft);
            Due.is("alone(0, 3, 0) with theft " + theft, x.alone(0, 3, Due.FREE), due[theft]);
            BobbinPool y = Due.pool(3, Due.FREE, theft, scripts);
            y.submit(0);
            Due.is("ticks with theft " + theft, ticksTillOver(y), due[theft]);
        }
    }

    private static void aloneWithoutPromises() {
        for (int promise = 0; promise <= 5; promise++) {
            BobbinPool x = Due.pool("await " + promise, "keep " + promise + ", await " + promise);
            Due.is("alone(0, 1, 0), with nothing kept", x.alone(0, 1, 0), -1);
            x.keep(promise, 7);
            Due.is("alone(0, 1, 0), with what is kept here", x.alone(0, 1, 0), -1);
            Due.is("alone(1, 1, 0), that keeps it", x.alone(1, 1, 0), 1);
            Due.is("alone(0, 1, 0), with what was kept there", x.alone(0, 1, 0), -1);
            Due.is("promise(" + promise + ")", x.promise(promise), 7);
        }
        BobbinPool x = Due.pool("add 1, keep 3");
        x.alone(0, 1, 0);
        Due.is("promise(3), not kept by that", x.promise(3), -1000000);
    }

    private static void aloneTillAllAreOver() {
        Due.is("alone(0, 2, 0) of one with a child that goes on", Due.pool("fork 1", "work 5").alone(0, 2, 0), 5);
        Due.is("alone(0, 1, 0) of one with a child that waits", Due.pool("fork 1", "await 0").alone(0, 1, 0), -1);
        Due.is("alone(0, 1, 0) of one with a child of 60", Due.pool("fork 1", work(60)).alone(0, 1, 0), 60);
        Due.is("alone(0, 1, 0) of one with a child of 61", Due.pool("fork 1", work(61)).alone(0, 1, 0), -1);
        Due.is("alone(0, 1, 0) of one that stops its child",
                Due.pool("fork 1, stop, work 4", "await 0").alone(0, 1, 0), 4);
    }

    private static void aloneUpToTwentyFour() {
        BobbinPool x = Due.pool("fork 0, work 1");
        Due.is("alone(0, 1, 0) of one that forks itself", x.alone(0, 1, 0), 24);
        BobbinPool y = Due.pool("fork 0, work 1", "work 1");
        for (int i = 0; i < 24; i++) {
            y.submit(1);
        }
        Due.is("alone(0, 1, 0) beside 24", y.alone(0, 1, 0), 24);
        Due.is("alone(0, 1, 0) again", y.alone(0, 1, 0), 24);
    }

    private static BobbinPool busy() {
        BobbinPool x = Due.pool(5, Due.HELP, 1, "fork 1, fork 2, work 2, join, await 0, try, keep 1",
                "add 5, work 3, fork 2, join", "work 2, add 7, fail", "await 1, work 1");
        for (int job : new int[] {0, 3, 1, 0, 2}) {
            x.submit(job);
        }
        x.keep(5, -3);
        x.tick(3);
        return x;
    }

    private static void aloneWhateverThereIs() {
        BobbinPool x = busy();
        for (int job = 0; job < 4; job++) {
            for (int workers = 1; workers <= 5; workers++) {
                for (int way = 0; way <= 2; way++) {
                    BobbinPool y = Due.pool(workers, way, 1, "fork 1, fork 2, work 2, join, await 0, try, keep 1",
                            "add 5, work 3, fork 2, join", "work 2, add 7, fail", "await 1, work 1");
                    y.submit(job);
                    Due.is("alone(" + job + ", " + workers + ", " + way + ")", x.alone(job, workers, way),
                            ticksTillOver(y));
                }
            }
        }
    }

    private static void aloneNamesTheJobFirst() {
        for (int job : new int[] {MIN, -1, 1, MAX}) {
            Twin.refuses("alone(" + job + ", 0, 0)", () -> Due.pool("work 1"), Due.INDEX, x -> x.alone(job, 0, 0));
            Twin.refuses("alone(" + job + ", 1, 3)", () -> Due.pool("work 1"), Due.INDEX, x -> x.alone(job, 1, 3));
            Twin.refuses("alone(" + job + ", 6, -1)", () -> Due.pool("work 1"), Due.INDEX, x -> x.alone(job, 6, -1));
        }
    }

    private static void askingChangesNothing() {
        Twin.keeps("overIn()", AheadEdgesTest::busy, x -> x.overIn(0, 60));
        Twin.keeps("valueIn()", AheadEdgesTest::busy, x -> x.valueIn(1, 60));
        Twin.keeps("haltsIn()", AheadEdgesTest::busy, x -> x.haltsIn(60));
        Twin.keeps("alone()", AheadEdgesTest::busy, x -> x.alone(0, 1, 0));
        Twin.keeps("digest()", AheadEdgesTest::busy, BobbinPool::digest);
        Twin.keeps("halted() and load()", AheadEdgesTest::busy, x -> {
            x.halted();
            x.load();
        });
    }

    // ---- promise 33

    private static final class Sum {
        private BigInteger d = BigInteger.valueOf(58063);

        void add(long x) {
            d = d.multiply(BigInteger.valueOf(31)).add(BigInteger.valueOf(x));
        }

        /** The lowest 64 bits, that is what is left as it wraps around. */
        long wrapped() {
            return d.longValue();
        }
    }

    private static long digestOf(BobbinPool x) {
        Sum sum = new Sum();
        sum.add(x.clock());
        sum.add(x.tasks());
        sum.add(x.workers());
        sum.add(x.halted());
        for (int task = 0; task < x.tasks(); task++) {
            sum.add(x.stateOf(task));
            sum.add(x.valueOf(task));
            sum.add(x.stepOf(task));
            sum.add(x.parentOf(task));
            sum.add(x.childrenOf(task));
            sum.add(x.workOf(task));
            sum.add(x.overAt(task));
        }
        for (int promise = 0; promise < 6; promise++) {
            sum.add(x.promise(promise));
        }
        for (int worker = -1; worker < x.workers(); worker++) {
            sum.add(x.row(worker));
            for (int place = 0; place < x.row(worker); place++) {
                sum.add(x.inRow(worker, place));
            }
        }
        for (int worker = 0; worker < x.workers(); worker++) {
            sum.add(x.top(worker));
            sum.add(x.stack(worker));
            for (int what = 0; what <= 2; what++) {
                sum.add(x.told(worker, what));
            }
            for (int back = 1; back <= 3; back++) {
                sum.add(x.ran(worker, back));
            }
        }
        return sum.wrapped();
    }

    private static void digestOfANewPool() {
        BobbinPool x = new BobbinPool();
        long[] numbers = {0, 0, 1, 0, -1000000, -1000000, -1000000, -1000000, -1000000, -1000000, 0, 0,
            -1, 0, 0, 0, 0, -2, -2, -2};
        Sum sum = new Sum();
        for (long number : numbers) {
            sum.add(number);
        }
        Due.is("digest() of a new pool", x.digest(), sum.wrapped());
        Due.is("digest() of a new pool, asked for", x.digest(), digestOf(x));
        x.addJob();
        Due.is("digest() with a job", x.digest(), sum.wrapped());
    }

    private static BobbinPool twentyFour(int way, int ticks) {
        BobbinPool x = Due.pool(5, way, 2, "await 0");
        for (int i = 0; i < 24; i++) {
            x.submit(0);
        }
        if (ticks > 0) {
            x.tick(ticks);
        }
        return x;
    }

    private static void digestOfFullPools() {
        BobbinPool common = twentyFour(Due.HELP, 0);
        Due.is("digest() with 24 in the common row", common.digest(), digestOf(common));
        BobbinPool stack = twentyFour(Due.HELP, 40);
        Due.is("digest() with 24 on a stack", stack.digest(), digestOf(stack));
        BobbinPool row = twentyFour(Due.FREE, 1);
        row.keep(0, -999);
        Due.is("digest() with 24 in a row", row.digest(), digestOf(row));
        BobbinPool over = twentyFour(Due.FREE, 1);
        over.keep(0, 999);
        over.tick(1);
        Due.is("digest() with all over", over.digest(), digestOf(over));
    }

    private static void digestTickByTick() {
        for (int ticks = 0; ticks <= 24; ticks++) {
            BobbinPool x = busy();
            for (int i = 0; i < ticks; i++) {
                x.tick(1);
            }
            Due.is("digest() behind " + ticks + " ticks", x.digest(), digestOf(x));
            Due.is("digest() behind " + ticks + " ticks, again", x.digest(), digestOf(x));
        }
    }
}
