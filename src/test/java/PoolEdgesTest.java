/** Promises 4 to 9 at their edges: each sentence that names one has a test of its own. */
public final class PoolEdgesTest {
    private static final int MIN = Integer.MIN_VALUE;
    private static final int MAX = Integer.MAX_VALUE;
    private static final int[] TICKS = {1, 2, 39, 40};
    /** Which task the worker 2 of thieves() steals with each theft. */
    private static final int[] STOLEN = {3, 4, -1};

    public static void main(String[] args) {
        oneToFiveWorkers();
        asManyWorkersAsThereAre();
        workerWithATaskInItsRowStays();
        workerWithATaskOnItsStackStays();
        workerWithAwaitingTaskStays();
        workerWithJoiningTaskStays();
        workerMayGoAsTheTaskWentOn();
        wrongWorkersAreNamedFirst();
        goneWorkerComesAnew();
        stayingWorkersKeepAll();
        waysFromZeroToTwo();
        wrongWaysChangeNothing();
        wayStaysWithAnyStack();
        sameWayWithAStack();
        refusedWayKeepsTheTheft();
        wayMayChangeBesideStacks();
        submitOfAnyJob();
        twentyFourInTheCommonRow();
        noTwentyFifthHoweverTheyCame();
        cancelOfNoTask();
        cancelOfOneThatIsOver();
        cancelInAnyState();
        cancelCountsOneToTwentyFour();
        cancelCountsNoneThatIsOver();
        cancelInFirstMiddleAndLastPlace();
        cancelFreesWhoJoinsJustThat();
        cancelledIsFreedByNothing();
        keepOfAnyPromise();
        keepAnswersOnce();
        keepFreesAllByNumbers();
        keepFreesOnEachWorker();
        keepNumberIsNamedSecond();
        ticksFromOneToForty();
        ticksAreOneByOne();
        tickCountsTheUnfinished();
        Due.end();
    }

    // ---- promise 4

    private static void oneToFiveWorkers() {
        BobbinPool x = new BobbinPool();
        int before = 1;
        for (int workers : new int[] {5, 1, 2, 4, 3, 5, 4, 1, 3, 2}) {
            Due.is("setWorkers(" + workers + ")", x.setWorkers(workers), before);
            Due.is("workers()", x.workers(), workers);
            Due.is("top(" + (workers - 1) + ")", x.top(workers - 1), -1);
            Due.refuses("top(" + workers + ")", x, Due.INDEX, () -> x.top(workers));
            before = workers;
        }
        for (int workers : new int[] {MIN, -1, 0, 6, MAX}) {
            Twin.refuses("setWorkers(" + workers + ")", () -> Due.pool(3, 0, 0, "work 1"), Due.ARGUMENT,
                    y -> y.setWorkers(workers));
        }
    }

    private static void asManyWorkersAsThereAre() {
        Twin.keeps("setWorkers(3) of 3", () -> busyOn(2, "work 9"), x -> x.setWorkers(x.workers()));
        for (int last = 0; last < 5; last++) {
            BobbinPool x = busyOn(last, "await 0");
            Due.is("setWorkers(5) of 5 with one blocked on " + last, x.setWorkers(5), 5);
            Due.is("stateOf(" + last + ")", x.stateOf(last), Due.AWAITING);
        }
    }

    /** Five workers that do not steal; the last of the tasks was taken by this one, the others by those before it. */
    private static BobbinPool busyOn(int worker, String script) {
        BobbinPool x = Due.pool(5, Due.FREE, 2, "work 1", script, "work 9");
        for (int i = 0; i < worker; i++) {
            x.submit(0);
        }
        x.submit(1);
        x.tick(1);
        return x;
    }

    private static void staysOnly(String what, int worker, Twin.Maker maker) {
        for (int workers = 1; workers <= 5; workers++) {
            int count = workers;
            if (workers <= worker) {
                Twin.refuses("setWorkers(" + count + ") with " + what + " " + worker, maker, Due.STATE,
                        x -> x.setWorkers(count));
            } else {
                BobbinPool x = maker.make();
                Due.is("setWorkers(" + count + ") with " + what + " " + worker, x.setWorkers(count), 5);
                Due.is("workers() with " + what + " " + worker, x.workers(), count);
            }
        }
    }

    private static void workerWithATaskInItsRowStays() {
        for (int worker = 0; worker < 5; worker++) {
            int last = worker;
            Twin.Maker maker = () -> busyOn(last, "fork 2, work 1");
            Due.row("in the row", maker.make(), last, last + 1);
            Due.is("stack(" + last + ")", maker.make().stack(last), 0);
            staysOnly("a task in the row", last, maker);
        }
    }

    private static void workerWithATaskOnItsStackStays() {
        for (int worker = 0; worker < 5; worker++) {
            int last = worker;
            Twin.Maker maker = () -> busyOn(last, "work 9");
            Due.is("top(" + last + ")", maker.make().top(last), last);
            staysOnly("a task on the stack", last, maker);
        }
    }

    private static void workerWithAwaitingTaskStays() {
        for (int worker = 0; worker < 5; worker++) {
            int last = worker;
            Twin.Maker maker = () -> busyOn(last, "await 3");
            Due.is("stateOf(" + last + ")", maker.make().stateOf(last), Due.AWAITING);
            Due.is("stack(" + last + ")", maker.make().stack(last), 0);
            staysOnly("a task blocked on the worker", last, maker);
        }
    }

    /** The worker 1 forks the task 2, which the worker 0 steals and runs; the task 1 waits for it. */
    private static BobbinPool joiningOnOne() {
        BobbinPool x = Due.pool(3, Due.FREE, 0, "work 1", "fork 2, work 1, join, work 9", "work 9");
        x.submit(0);
        x.submit(1);
        x.setWorkers(2);
        x.tick(3);
        return x;
    }

    private static void workerWithJoiningTaskStays() {
        BobbinPool x = joiningOnOne();
        Due.states("joining", x, Due.DONE, Due.JOINING, Due.RUNNING);
        Due.is("top(0)", x.top(0), 2);
        Due.is("stack(1)", x.stack(1), 0);
        Due.is("row(1)", x.row(1), 0);
        Twin.refuses("setWorkers(1) with one joining on the worker 1", PoolEdgesTest::joiningOnOne, Due.STATE,
                y -> y.setWorkers(1));
        x.cancel(1);
        Due.is("setWorkers(1) as it is cancelled", x.setWorkers(1), 2);
    }

    private static void workerMayGoAsTheTaskWentOn() {
        // Freed in the row of the worker 1, stolen by the worker 0, and blocked there: the worker 1 may go.
        BobbinPool x = Due.pool(2, Due.FREE, 0, "work 1", "await 0, await 1", "work 1");
        x.submit(0);
        x.submit(1);
        x.tick(1);
        x.submit(2);
        x.setWorkers(3);
        x.keep(0, 1);
        Due.refuses("setWorkers(1) with it in the row 1", x, Due.STATE, () -> x.setWorkers(1));
        x.tick(1);
        // The worker 1 takes it itself, as it is in its own row, and it is blocked on it again.
        Due.refuses("setWorkers(1) with it blocked on 1 again", x, Due.STATE, () -> x.setWorkers(1));
        Due.is("setWorkers(2)", x.setWorkers(2), 3);

        BobbinPool y = Due.pool(2, Due.FREE, 0, "work 1", "await 0, await 1", "work 9");
        y.submit(0);
        y.submit(1);
        y.tick(1);
        y.keep(0, 1);
        y.tick(1);
        Due.is("top(0) as it is stolen", y.top(0), 1);
        Due.is("stateOf(1) as it is stolen", y.stateOf(1), Due.RUNNING);
        Due.is("setWorkers(1) as it was blocked there, and went on", y.setWorkers(1), 2);
        y.tick(1);
        Due.is("stateOf(1) as it is blocked on the worker 0", y.stateOf(1), Due.AWAITING);
        Due.is("setWorkers(2)", y.setWorkers(2), 1);
        Due.is("setWorkers(1)", y.setWorkers(1), 2);
        y.keep(1, 1);
        Due.row("freed on the worker 0", y, 0, 1);
    }

    private static void wrongWorkersAreNamedFirst() {
        for (int workers : new int[] {MIN, -1, 0, 6, MAX}) {
            Twin.refuses("setWorkers(" + workers + ") with a task on the stack 4", () -> busyOn(4, "work 9"),
                    Due.ARGUMENT, x -> x.setWorkers(workers));
        }
    }

    private static void goneWorkerComesAnew() {
        BobbinPool x = Due.pool(2, Due.FREE, 0, "fork 1, fork 1, work 3", "work 1");
        x.submit(0);
        x.tick(5);
        Due.is("told(1, 0)", x.told(1, 0), 2);
        Due.is("told(1, 1)", x.told(1, 1), 1);
        Due.is("told(1, 2)", x.told(1, 2), 2);
        Due.is("ran(1, 4)", x.ran(1, 4), 1);
        Due.is("ran(1, 2)", x.ran(1, 2), 2);
        x.setWorkers(1);
        x.setWorkers(5);
        for (int worker = 1; worker < 5; worker++) {
            for (int what = 0; what <= 2; what++) {
                Due.is("told(" + worker + ", " + what + ") anew", x.told(worker, what), 0);
            }
            for (int back = 1; back <= 5; back++) {
                Due.is("ran(" + worker + ", " + back + ") anew", x.ran(worker, back), -1);
            }
            Due.is("ran(" + worker + ", 6) anew", x.ran(worker, 6), -2);
            Due.is("top(" + worker + ") anew", x.top(worker), -1);
            Due.is("stack(" + worker + ") anew", x.stack(worker), 0);
            Due.is("row(" + worker + ") anew", x.row(worker), 0);
        }
        x.submit(1);
        x.submit(1);
        x.tick(1);
        Due.is("told(1, 0) since it is there", x.told(1, 0), 1);
        Due.is("told(2, 1) since it is there", x.told(2, 1), 1);
        Due.is("ran(1, 1) since it is there", x.ran(1, 1), 4);
        Due.is("ran(1, 2) since it is there", x.ran(1, 2), -1);
    }

    private static void stayingWorkersKeepAll() {
        BobbinPool x = busyOn(1, "fork 2, fork 2, work 9");
        x.tick(2);
        x.setWorkers(2);
        Due.is("told(0, 0)", x.told(0, 0), 1);
        Due.is("told(0, 1)", x.told(0, 1), 2);
        Due.is("told(1, 0)", x.told(1, 0), 3);
        Due.is("ran(1, 3)", x.ran(1, 3), 1);
        Due.is("top(1)", x.top(1), 1);
        Due.row("as others went", x, 1, 2, 3);
        x.setWorkers(4);
        Due.is("told(1, 0)", x.told(1, 0), 3);
        Due.is("ran(1, 3)", x.ran(1, 3), 1);
        Due.is("top(1)", x.top(1), 1);
        Due.row("as others came", x, 1, 2, 3);
    }

    // ---- promise 5

    private static void waysFromZeroToTwo() {
        BobbinPool x = new BobbinPool();
        int before = 0;
        for (int way : new int[] {0, 2, 1, 0, 1, 2, 2, 0}) {
            for (int theft = 0; theft <= 2; theft++) {
                Due.is("setWay(" + way + ", " + theft + ")", x.setWay(way, theft), before);
                before = way;
            }
        }
    }

    private static void wrongWaysChangeNothing() {
        int[][] wrong = {{MIN, 0}, {-1, 0}, {3, 0}, {MAX, 0}, {1, MIN}, {1, -1}, {1, 3}, {1, MAX},
            {3, 1}, {-1, 1}, {3, 2}, {2, 3}, {3, 3}};
        for (int[] pair : wrong) {
            String call = "setWay(" + pair[0] + ", " + pair[1] + ")";
            Twin.refuses(call, JobEdgesTest::thievesJobs, Due.ARGUMENT, x -> x.setWay(pair[0], pair[1]));
            Twin.refuses(call + " with a stack", () -> busyOn(4, "work 9"), Due.ARGUMENT,
                    x -> x.setWay(pair[0], pair[1]));
            BobbinPool x = JobEdgesTest.thievesJobs();
            Twin.thrown(x, y -> y.setWay(pair[0], pair[1]));
            Due.is("the theft behind " + call, JobEdgesTest.stolen(x), 2);
            BobbinPool y = new BobbinPool();
            Twin.thrown(y, z -> z.setWay(pair[0], pair[1]));
            Due.is("the way behind " + call, y.setWay(0, 0), 0);
        }
    }

    private static void wayStaysWithAnyStack() {
        for (int worker = 0; worker < 5; worker++) {
            int last = worker;
            Twin.Maker maker = () -> busyOn(last, "work 9");
            for (int way = 1; way <= 2; way++) {
                for (int theft = 0; theft <= 2; theft++) {
                    int to = way;
                    int from = theft;
                    Twin.refuses("setWay(" + to + ", " + from + ") with a task on the stack " + last, maker, Due.STATE,
                            x -> x.setWay(to, from));
                }
            }
        }
        // A blocked one on a stack counts, too.
        for (int way = 1; way <= 2; way++) {
            int held = way;
            Twin.Maker maker = () -> {
                BobbinPool x = Due.pool(1, held, 0, "await 0");
                x.submit(0);
                x.tick(1);
                return x;
            };
            Due.is("stack(0)", maker.make().stack(0), 1);
            Twin.refuses("setWay(0, 0) with a blocked one on the stack", maker, Due.STATE, x -> x.setWay(0, 0));
            Twin.refuses("setWay(" + (3 - held) + ", 0) with it", maker, Due.STATE, x -> x.setWay(3 - held, 0));
        }
    }

    private static void sameWayWithAStack() {
        for (int theft = 0; theft <= 2; theft++) {
            BobbinPool x = thieves(2);
            Due.is("setWay(0, " + theft + ") with tasks on the stacks", x.setWay(0, theft), 0);
            x.tick(1);
            Due.is("top(2) with theft " + theft, x.top(2), STOLEN[theft]);
        }
    }

    /** The worker 2 was at work for two ticks, so that it steals in the third one, if it may. */
    private static BobbinPool thieves(int theft) {
        BobbinPool x = Due.pool(3, Due.FREE, 2, "fork 3, work 9", "fork 3, fork 3, work 9", "work 2", "work 9");
        x.submit(0);
        x.submit(1);
        x.submit(2);
        x.tick(2);
        x.setWay(Due.FREE, theft);
        return x;
    }

    private static void refusedWayKeepsTheTheft() {
        for (int before = 0; before <= 2; before++) {
            int theft = before;
            for (int way = 1; way <= 2; way++) {
                for (int other = 0; other <= 2; other++) {
                    int to = way;
                    int from = other;
                    String call = "setWay(" + to + ", " + from + ") with the theft " + theft;
                    Twin.refuses(call, () -> thieves(theft), Due.STATE, x -> x.setWay(to, from));
                    BobbinPool x = thieves(theft);
                    Twin.thrown(x, y -> y.setWay(to, from));
                    x.tick(1);
                    Due.is("top(2) behind " + call, x.top(2), STOLEN[theft]);
                }
            }
        }
    }

    private static void wayMayChangeBesideStacks() {
        for (int way = 0; way <= 2; way++) {
            BobbinPool x = Due.pool(1, Due.FREE, 0, "await 0", "work 1");
            x.submit(0);
            x.tick(1);
            x.submit(1);
            Due.is("setWay(" + way + ", 0) with a ready and a blocked one", x.setWay(way, 0), 0);
            x.keep(0, 2);
            Due.is("stateOf(0), freed beside the stacks", x.stateOf(0), Due.READY);
            Due.row("freed beside the stacks", x, 0, 0);
            Due.is("setWay(0, 0) with all in rows", x.setWay(0, 0), way);
        }
    }

    // ---- promise 6

    private static void submitOfAnyJob() {
        BobbinPool x = Due.pool("add 1", "add 2", "add 3", "add 4", "add 5", "add 6", "add 7", "add 8");
        Due.is("submit(7)", x.submit(7), 0);
        Due.is("submit(0)", x.submit(0), 1);
        x.tick(1);
        Due.is("valueOf(0)", x.valueOf(0), 8);
        Due.is("valueOf(1)", x.valueOf(1), 1);
        for (int job : new int[] {MIN, -1, 8, MAX}) {
            Due.refuses("submit(" + job + ")", x, Due.INDEX, () -> x.submit(job));
        }
        Twin.refuses("submit(1) of one job", () -> Due.pool("work 1"), Due.INDEX, y -> y.submit(1));
    }

    private static BobbinPool many(int count, String script) {
        BobbinPool x = Due.pool(script);
        for (int i = 0; i < count; i++) {
            x.submit(0);
        }
        return x;
    }

    private static void twentyFourInTheCommonRow() {
        BobbinPool x = many(23, "work 1");
        Due.is("submit(0) of the 24th", x.submit(0), 23);
        Due.is("row(-1)", x.row(-1), 24);
        for (int place = 0; place < 24; place++) {
            Due.is("inRow(-1, " + place + ")", x.inRow(-1, place), place);
            Due.is("stateOf(" + place + ")", x.stateOf(place), Due.READY);
        }
        Due.refuses("inRow(-1, 24)", x, Due.INDEX, () -> x.inRow(-1, 24));
        Twin.refuses("submit(0) of the 25th", () -> many(24, "work 1"), Due.STATE, y -> y.submit(0));
        Due.is("tick(24)", x.tick(24), 0);
        for (int task = 0; task < 24; task++) {
            Due.is("overAt(" + task + ")", x.overAt(task), task);
        }
    }

    private static void noTwentyFifthHoweverTheyCame() {
        Twin.Maker forked = () -> {
            BobbinPool x = many(1, "fork 0, await 0");
            x.tick(1);
            return x;
        };
        Due.is("tasks() of one that forks itself", forked.make().tasks(), 24);
        Twin.refuses("submit(0) with 24 that were forked", forked, Due.STATE, x -> x.submit(0));
        Twin.Maker cancelled = () -> {
            BobbinPool x = many(24, "work 1");
            x.cancel(0);
            x.cancel(23);
            return x;
        };
        Twin.refuses("submit(0) with 24, two of them cancelled", cancelled, Due.STATE, x -> x.submit(0));
        for (int job : new int[] {MIN, -1, 1, 8, MAX}) {
            Twin.refuses("submit(" + job + ") with 24", () -> many(24, "work 1"), Due.INDEX, x -> x.submit(job));
        }
    }

    // ---- promise 7

    private static void cancelOfNoTask() {
        for (int count : new int[] {0, 1, 24}) {
            for (int task : new int[] {MIN, -1, count, 24, MAX}) {
                Twin.refuses("cancel(" + task + ") of " + count, () -> many(count, "work 2"), Due.INDEX,
                        x -> x.cancel(task));
            }
        }
        Due.is("cancel(23) of 24", many(24, "work 2").cancel(23), 1);
        Due.is("cancel(0) of 24", many(24, "work 2").cancel(0), 1);
    }

    private static void cancelOfOneThatIsOver() {
        Twin.Maker maker = () -> {
            BobbinPool x = Due.pool("add 1", "fail", "work 9", "fork 1, join");
            for (int job = 0; job < 4; job++) {
                x.submit(job);
            }
            x.cancel(2);
            x.tick(1);
            return x;
        };
        Due.states("over", maker.make(), Due.DONE, Due.FAILED, Due.CANCELLED, Due.FAILED, Due.FAILED);
        for (int task = 0; task < 5; task++) {
            int over = task;
            Twin.refuses("cancel(" + task + ") of one that is over", maker, Due.STATE, x -> x.cancel(over));
        }
    }

    private static void cancelInAnyState() {
        String[] scripts = {"add 3, work 9", "add 3, fork 1, join", "add 3, await 0"};
        int[] states = {Due.RUNNING, Due.JOINING, Due.AWAITING};
        int[] steps = {1, 2, 1};
        for (int way = 0; way <= 2; way++) {
            for (int i = 0; i < 3; i++) {
                String what = scripts[i] + " with the way " + way;
                BobbinPool x = Due.pool(1, way, 0, scripts[i], "work 9");
                Due.is("submit(0)", x.submit(0), 0);
                x.tick(2);
                Due.is("stateOf(0) of " + what, x.stateOf(0), states[i]);
                Due.is("cancel(0) of " + what, x.cancel(0), i == 1 ? 2 : 1);
                Due.is("stateOf(0) of " + what, x.stateOf(0), Due.CANCELLED);
                Due.is("stepOf(0) of " + what, x.stepOf(0), steps[i]);
                Due.is("valueOf(0) of " + what, x.valueOf(0), 3);
                Due.is("overAt(0) of " + what, x.overAt(0), 2);
                Due.is("stack(0) of " + what, x.stack(0), 0);
                Due.is("row(0) of " + what, x.row(0), 0);
            }
        }
        BobbinPool x = many(1, "work 1");
        Due.is("cancel(0) of a ready one", x.cancel(0), 1);
        Due.is("stateOf(0)", x.stateOf(0), Due.CANCELLED);
        Due.is("overAt(0) before the first tick", x.overAt(0), 0);
        Due.is("stepOf(0)", x.stepOf(0), 0);
        Due.is("row(-1)", x.row(-1), 0);
    }

    private static void cancelCountsOneToTwentyFour() {
        // A chain, in which each task forks the next one, cancelled from each of its places.
        for (int task = 0; task < 24; task++) {
            BobbinPool x = many(1, "fork 0, await 0");
            x.tick(1);
            Due.is("cancel(" + task + ") in a chain of 24", x.cancel(task), 24 - task);
            for (int other = 0; other < 24; other++) {
                Due.is("stateOf(" + other + ")", x.stateOf(other), other < task ? Due.AWAITING : Due.CANCELLED);
            }
        }
        // One with as many children as a script has room for.
        BobbinPool x = Due.pool(1, Due.FREE, 0,
                "fork 1, fork 1, fork 1, fork 1, fork 1, fork 1, fork 1, fork 1, fork 1, fork 1, fork 1, await 0",
                "await 1");
        x.submit(0);
        x.tick(1);
        Due.is("tasks()", x.tasks(), 12);
        Due.is("childrenOf(0)", x.childrenOf(0), 4094);
        Due.is("cancel(0) with eleven children", x.cancel(0), 12);
    }

    private static void cancelCountsNoneThatIsOver() {
        // 0 forks 1 (done), 2 (failed), 3 (cancelled) and 4, and has joined none; 4 forks 5, and is done.
        BobbinPool x = Due.pool(1, Due.FREE, 0, "fork 1, fork 2, fork 3, fork 4, await 0", "add 1", "fail", "await 1",
                "fork 3");
        x.submit(0);
        x.tick(1);
        x.cancel(3);
        Due.states("before", x, Due.AWAITING, Due.DONE, Due.FAILED, Due.CANCELLED, Due.DONE, Due.AWAITING);
        Due.is("cancel(0)", x.cancel(0), 1);
        Due.states("behind", x, Due.CANCELLED, Due.DONE, Due.FAILED, Due.CANCELLED, Due.DONE, Due.AWAITING);
        Due.is("childrenOf(0)", x.childrenOf(0), Due.set(1, 2, 3, 4));
        Due.is("overAt(1) stays", x.overAt(1), 0);
        x.keep(1, 0);
        Due.is("tick(1), as the child of a done one goes on", x.tick(1), 0);
        Due.is("stateOf(5)", x.stateOf(5), Due.DONE);
    }

    private static void cancelInFirstMiddleAndLastPlace() {
        int[][] left = {{1, 2}, {0, 2}, {0, 1}};
        for (int place = 0; place < 3; place++) {
            BobbinPool x = many(3, "work 1");
            Due.is("cancel(" + place + ") in the common row", x.cancel(place), 1);
            Due.row("the common row without " + place, x, -1, left[place]);

            BobbinPool y = many(3, "await 0");
            y.tick(1);
            y.keep(0, 1);
            y.cancel(place);
            Due.row("the row 0 without " + place, y, 0, left[place]);

            BobbinPool z = many(3, "await 0");
            z.setWay(Due.HELP, 0);
            z.tick(1);
            Due.is("stack(0)", z.stack(0), 3);
            z.cancel(place);
            Due.is("stack(0) without " + place, z.stack(0), 2);
            Due.is("top(0) without " + place, z.top(0), left[place][1]);
            z.cancel(left[place][1]);
            Due.is("top(0), the last one left", z.top(0), left[place][0]);
        }
    }

    private static void cancelFreesWhoJoinsJustThat() {
        for (int way = 0; way <= 2; way++) {
            // 0 has the children 1 and 2, both awaiting, and waits for 2.
            BobbinPool x = Due.pool(1, Due.FREE, 2, "fork 1, fork 1, work 1, joinall, add 5", "await 0");
            x.submit(0);
            x.tick(2);
            Due.states("joining", x, Due.JOINING, Due.AWAITING, Due.AWAITING);
            x.setWay(way, 2);
            Due.is("cancel(1), the first one", x.cancel(1), 1);
            Due.is("stateOf(0), as it waits for the last one", x.stateOf(0), Due.JOINING);
            Due.row("as it waits for the last one", x, 0);
            Due.is("cancel(2), the last one", x.cancel(2), 1);
            Due.is("stateOf(0), as that is cancelled", x.stateOf(0), Due.READY);
            Due.row("as that is cancelled", x, 0, 0);
            Due.is("tick(1)", x.tick(1), 0);
            Due.is("valueOf(0)", x.valueOf(0), 5);
        }
    }

    private static void cancelledIsFreedByNothing() {
        BobbinPool x = many(2, "await 0");
        x.tick(1);
        x.cancel(0);
        x.keep(0, 9);
        Due.states("of two that waited", x, Due.CANCELLED, Due.READY);
        Due.row("of two that waited", x, 0, 1);

        // The child is over behind its cancelled parent.
        BobbinPool y = Due.pool(1, Due.FREE, 0, "fork 1, join", "fork 2, await 0", "await 1");
        y.submit(0);
        y.tick(1);
        Due.is("cancel(0)", y.cancel(0), 3);
        y.keep(0, 1);
        y.keep(1, 1);
        Due.states("all of a tree", y, Due.CANCELLED, Due.CANCELLED, Due.CANCELLED);
        Due.row("all of a tree", y, 0);
    }

    // ---- promise 8

    private static void keepOfAnyPromise() {
        for (int promise = 0; promise <= 5; promise++) {
            for (int number : new int[] {-999, -1, 0, 1, 999}) {
                BobbinPool x = many(1, "await 3");
                Due.is("keep(" + promise + ", " + number + ")", x.keep(promise, number) ? 1 : 0, 1);
                for (int other = 0; other <= 5; other++) {
                    Due.is("promise(" + other + ")", x.promise(other), other == promise ? number : -1000000);
                }
            }
            int asked = promise;
            for (int number : new int[] {MIN, -1000, 1000, MAX}) {
                Twin.refuses("keep(" + promise + ", " + number + ")", () -> many(1, "await " + asked), Due.ARGUMENT,
                        x -> x.keep(asked, number));
            }
        }
        for (int promise : new int[] {MIN, -1, 6, MAX}) {
            Twin.refuses("keep(" + promise + ", 0)", () -> many(1, "await 5"), Due.INDEX, x -> x.keep(promise, 0));
        }
    }

    private static void keepAnswersOnce() {
        for (int number : new int[] {-999, 0, 999}) {
            BobbinPool x = new BobbinPool();
            x.keep(4, number);
            Due.is("keep(4, 1) of a kept one", x.keep(4, 1) ? 1 : 0, 0);
            Due.is("keep(4, " + number + ") of a kept one", x.keep(4, number) ? 1 : 0, 0);
            Due.is("promise(4)", x.promise(4), number);
        }
        BobbinPool x = many(1, "add -100, keep 2, work 1");
        x.tick(1);
        Due.is("keep(2, 1) of one that a task kept", x.keep(2, 1) ? 1 : 0, 0);
        Due.is("promise(2)", x.promise(2), -100);
        Twin.Maker kept = () -> {
            BobbinPool y = many(2, "await 0, await 1");
            y.keep(0, 5);
            y.tick(1);
            return y;
        };
        Twin.keeps("keep(0, 6) of a kept one", kept, y -> y.keep(0, 6));
    }

    private static void keepFreesAllByNumbers() {
        BobbinPool x = many(24, "await 5");
        x.tick(1);
        Due.is("keep(5, 1)", x.keep(5, 1) ? 1 : 0, 1);
        Due.is("row(0), full", x.row(0), 24);
        for (int place = 0; place < 24; place++) {
            Due.is("inRow(0, " + place + ")", x.inRow(0, place), place);
        }
        Due.refuses("inRow(0, 24)", x, Due.INDEX, () -> x.inRow(0, 24));
        Due.is("tick(1)", x.tick(1), 0);

        // 1 is blocked first, then 2, then 0: that does not count.
        BobbinPool y = Due.pool(1, Due.FREE, 0, "await 0, await 1", "await 1");
        y.submit(0);
        y.submit(1);
        y.submit(0);
        y.tick(1);
        y.keep(0, 0);
        y.tick(1);
        Due.states("blocked in another order", y, Due.AWAITING, Due.AWAITING, Due.AWAITING);
        y.keep(1, 0);
        Due.row("freed by their numbers", y, 0, 0, 1, 2);
    }

    private static void keepFreesOnEachWorker() {
        // Each worker takes one that awaits, and then one that works, so that the next worker comes to the next two.
        BobbinPool x = Due.pool(5, Due.FREE, 2, "await 0", "work 1");
        for (int worker = 0; worker < 5; worker++) {
            x.submit(0);
            x.submit(1);
        }
        x.tick(1);
        x.keep(0, 1);
        for (int worker = 0; worker < 5; worker++) {
            Due.row("freed where it was blocked", x, worker, 2 * worker);
            Due.is("stateOf(" + 2 * worker + ")", x.stateOf(2 * worker), Due.READY);
        }
    }

    private static void keepNumberIsNamedSecond() {
        for (int promise : new int[] {MIN, -1, 6, MAX}) {
            for (int number : new int[] {MIN, -1000, 1000, MAX}) {
                Twin.refuses("keep(" + promise + ", " + number + ")", BobbinPool::new, Due.INDEX,
                        x -> x.keep(promise, number));
            }
        }
        Twin.Maker kept = () -> {
            BobbinPool x = new BobbinPool();
            x.keep(3, 999);
            return x;
        };
        for (int number : new int[] {MIN, -1000, 1000, MAX}) {
            Twin.refuses("keep(3, " + number + ") of a kept one", kept, Due.ARGUMENT, x -> x.keep(3, number));
        }
    }

    // ---- promise 9

    private static void ticksFromOneToForty() {
        for (int ticks : TICKS) {
            BobbinPool x = many(24, "work 2");
            Due.is("tick(" + ticks + ")", x.tick(ticks), 24 - ticks / 2);
            Due.is("clock()", x.clock(), ticks);
        }
        for (int ticks : new int[] {MIN, -1, 0, 41, 60, MAX}) {
            Twin.refuses("tick(" + ticks + ")", () -> many(3, "work 2"), Due.ARGUMENT, x -> x.tick(ticks));
        }
    }

    private static void ticksAreOneByOne() {
        BobbinPool x = busyOn(2, "fork 2, fork 0, work 7, await 0");
        BobbinPool y = busyOn(2, "fork 2, fork 0, work 7, await 0");
        x.setWay(0, 1);
        y.setWay(0, 1);
        x.tick(40);
        for (int i = 0; i < 40; i++) {
            y.tick(1);
        }
        Due.is("digest() behind 40 ticks", x.digest(), y.digest());
        Due.is("clock() behind 40 ticks", x.clock(), 41);
    }

    private static void tickCountsTheUnfinished() {
        Due.is("tick(1) without tasks", new BobbinPool().tick(1), 0);
        Due.is("tick(40) with 24 awaiting", many(24, "await 0").tick(40), 24);
        // One in each state: ready, running, joining, awaiting; and the three that do not count.
        BobbinPool x = Due.pool(2, Due.HOLD, 2, "fork 4, join", "work 9", "add 1", "fail", "await 0");
        x.submit(2);
        x.submit(3);
        x.submit(0);
        x.submit(1);
        x.submit(1);
        x.submit(1);
        x.cancel(5);
        Due.is("tick(1)", x.tick(1), 4);
        Due.states("of each state", x, Due.DONE, Due.FAILED, Due.JOINING, Due.RUNNING, Due.READY, Due.CANCELLED,
                Due.READY);
        BobbinPool y = many(2, "await 0");
        y.keep(0, 1);
        Due.is("tick(1) as all are over", y.tick(1), 0);
        Due.is("tick(1) as all are over already", y.tick(1), 0);
    }
}
