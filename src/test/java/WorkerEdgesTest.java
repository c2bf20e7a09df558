import java.util.Collections;

/** Terms 3 and 4 and promises 20 to 28 at their edges: each sentence that names one has a test of its own. */
public final class WorkerEdgesTest {
    private static final int MIN = Integer.MIN_VALUE;
    private static final int MAX = Integer.MAX_VALUE;

    public static void main(String[] args) {
        ownRowOfOneAndOfTwo();
        ownRowOfAll();
        commonRowOfAll();
        nextOfFiveInTheCircle();
        nextIsTheNearest();
        nextOfOneWorker();
        fullestOfFive();
        fullestAmongEqualOnes();
        noTheftAtAll();
        takenIsNotStolen();
        stolenOneWaitsATick();
        stolenAreCountedEach();
        idleThoughItWentThroughSteps();
        notIdleAsItRan();
        turnOfManySteps();
        turnEndsAtWork();
        freeLeavesTheStackEmpty();
        holdWaitsUnderNothing();
        helpPilesUpAll();
        helpOnlyAboveABlockedOne();
        freedUnderAnotherWaits();
        freedInEachWay();
        freedOnAnyStack();
        workersOneAfterTheOther();
        eachTickIsOneOfThree();
        workersFromOneToFive();
        topOfNoneAndOfMany();
        stackOfNoneAndOfAll();
        rowOfNoneAndOfMany();
        placesFromTheFirstToTheLast();
        toldFromZeroToTwo();
        ranFromOneToTwenty();
        ranOfTicksThatWereNot();
        ranOfOneThatWasNotThere();
        haltedFour();
        haltedFiveToSeven();
        notHaltedWithoutTasks();
        notHaltedAsOneWouldOnlyBeBlocked();
        notHaltedAsOneWouldOnlySteal();
        haltedAsNoneMaySteal();
        loadOfNone();
        loadIsNotCut();
        Due.end();
    }

    private static String times(int count, String step) {
        return String.join(", ", Collections.nCopies(count, step));
    }

    // ---- terms 3 and 4: taken and stolen

    private static void ownRowOfOneAndOfTwo() {
        BobbinPool x = Due.pool("fork 1, fork 1, work 1", "work 1");
        x.submit(0);
        x.submit(1);
        x.tick(1);
        Due.row("two", x, 0, 2, 3);
        x.tick(1);
        Due.is("ran(0, 1), the last one", x.ran(0, 1), 3);
        Due.row("one", x, 0, 2);
        x.tick(1);
        Due.is("ran(0, 1), the only one", x.ran(0, 1), 2);
        x.tick(1);
        Due.is("ran(0, 1), without one the common one", x.ran(0, 1), 1);
    }

    private static void ownRowOfAll() {
        BobbinPool x = Due.pool("await 0, work 1");
        for (int i = 0; i < 24; i++) {
            x.submit(0);
        }
        x.tick(1);
        x.keep(0, 0);
        for (int left = 24; left > 0; left--) {
            Due.is("row(0)", x.row(0), left);
            x.tick(1);
            Due.is("ran(0, 1)", x.ran(0, 1), left - 1);
        }
        Due.is("row(0)", x.row(0), 0);
    }

    private static void commonRowOfAll() {
        BobbinPool x = Due.pool(5, Due.FREE, 0, "work 1");
        for (int i = 0; i < 24; i++) {
            x.submit(0);
        }
        for (int tick = 0; tick < 5; tick++) {
            x.tick(1);
            for (int worker = 0; worker < 5; worker++) {
                int task = tick * 5 + worker;
                Due.is("ran(" + worker + ", 1)", x.ran(worker, 1), task < 24 ? task : -1);
            }
        }
        Due.is("told(4, 1), for which none was left", x.told(4, 1), 1);
        Due.is("told(4, 2)", x.told(4, 2), 0);
    }

    /**
     * Five workers, each at work for so many ticks with a task that forked so many first, and then without anything.
     * The tasks 0 to 4 are theirs; nothing is stolen before the theft is set.
     */
    private static BobbinPool rows(int[] ticks, int[] forks) {
        BobbinPool x = new BobbinPool();
        for (int job = 0; job < 6; job++) {
            x.addJob();
        }
        for (int worker = 0; worker < 5; worker++) {
            for (int i = 0; i < forks[worker]; i++) {
                x.addStep(worker, 1, 5);
            }
            x.addStep(worker, 0, ticks[worker]);
        }
        x.addStep(5, 0, 9);
        x.setWorkers(5);
        x.setWay(Due.FREE, 2);
        for (int worker = 0; worker < 5; worker++) {
            x.submit(worker);
        }
        x.tick(1);
        return x;
    }

    private static void nextOfFiveInTheCircle() {
        for (int thief = 0; thief < 5; thief++) {
            for (int owner = 0; owner < 5; owner++) {
                if (owner != thief) {
                    int[] ticks = {9, 9, 9, 9, 9};
                    int[] forks = new int[5];
                    ticks[thief] = 1;
                    forks[owner] = 1;
                    for (int theft = 0; theft <= 1; theft++) {
                        BobbinPool x = rows(ticks, forks);
                        x.setWay(Due.FREE, theft);
                        x.tick(1);
                        String what = thief + " from " + owner + " with theft " + theft;
                        Due.is("top of " + what, x.top(thief), 5);
                        Due.is("told of " + what, x.told(thief, 2), 1);
                        Due.is("row of " + what, x.row(owner), 0);
                    }
                }
            }
        }
    }

    private static void nextIsTheNearest() {
        for (int thief = 0; thief < 5; thief++) {
            for (int near = 1; near <= 3; near++) {
                int first = (thief + near) % 5;
                int second = (thief + near + 1) % 5;
                int[] ticks = {9, 9, 9, 9, 9};
                int[] forks = new int[5];
                ticks[thief] = 1;
                forks[first] = 2;
                forks[second] = 3;
                BobbinPool x = rows(ticks, forks);
                int due = x.inRow(first, 0);
                x.setWay(Due.FREE, 0);
                x.tick(1);
                Due.is("top(" + thief + ") from " + first + " before " + second, x.top(thief), due);
                Due.is("row(" + first + ")", x.row(first), 1);
                Due.is("row(" + second + ")", x.row(second), 3);
            }
        }
    }

    private static void nextOfOneWorker() {
        for (int theft = 0; theft <= 2; theft++) {
            BobbinPool x = Due.pool(1, Due.HOLD, theft, "fork 1, await 0", "work 1");
            x.submit(0);
            x.tick(3);
            Due.row("of one worker, that does not steal from itself", x, 0, 1);
            Due.is("told(0, 2)", x.told(0, 2), 0);
            Due.is("told(0, 1)", x.told(0, 1), 3);
            Due.is("halted()", x.halted(), 7);
        }
    }

    private static void fullestOfFive() {
        for (int thief = 0; thief < 5; thief++) {
            for (int owner = 0; owner < 5; owner++) {
                if (owner != thief) {
                    int[] ticks = {9, 9, 9, 9, 9};
                    int[] forks = {1, 1, 1, 1, 1};
                    ticks[thief] = 1;
                    forks[thief] = 0;
                    forks[owner] = 2;
                    BobbinPool x = rows(ticks, forks);
                    int due = x.inRow(owner, 0);
                    x.setWay(Due.FREE, 1);
                    x.tick(1);
                    Due.is("top(" + thief + ") from the fullest " + owner, x.top(thief), due);
                    Due.is("row(" + owner + ")", x.row(owner), 1);
                }
            }
        }
    }

    private static void fullestAmongEqualOnes() {
        for (int thief = 0; thief < 5; thief++) {
            int[] ticks = {9, 9, 9, 9, 9};
            int[] forks = {2, 2, 2, 2, 2};
            ticks[thief] = 1;
            forks[thief] = 0;
            BobbinPool x = rows(ticks, forks);
            int smallest = thief == 0 ? 1 : 0;
            int due = x.inRow(smallest, 0);
            x.setWay(Due.FREE, 1);
            x.tick(1);
            Due.is("top(" + thief + ") from the smallest number", x.top(thief), due);
            Due.is("row(" + smallest + ")", x.row(smallest), 1);
        }
        BobbinPool x = rows(new int[] {9, 1, 9, 9, 9}, new int[] {1, 0, 2, 1, 2});
        int due = x.inRow(2, 0);
        x.setWay(Due.FREE, 1);
        x.tick(1);
        Due.is("top(1) from the smallest number of the fullest", x.top(1), due);
    }

    private static void noTheftAtAll() {
        for (int thief = 0; thief < 5; thief++) {
            int[] ticks = {9, 9, 9, 9, 9};
            int[] forks = {2, 2, 2, 2, 2};
            ticks[thief] = 1;
            forks[thief] = 0;
            BobbinPool x = rows(ticks, forks);
            x.tick(4);
            Due.is("top(" + thief + ") with theft 2", x.top(thief), -1);
            Due.is("told(" + thief + ", 1) with theft 2", x.told(thief, 1), 4);
            Due.is("told(" + thief + ", 2) with theft 2", x.told(thief, 2), 0);
        }
    }

    private static void takenIsNotStolen() {
        for (int theft = 0; theft <= 2; theft++) {
            BobbinPool x = Due.pool(2, Due.FREE, theft, "fork 1", "work 2", "work 1");
            x.submit(0);
            x.submit(2);
            x.tick(3);
            Due.is("told(0, 2), of its own row", x.told(0, 2), 0);
            Due.is("told(1, 2), of the common row", x.told(1, 2), 0);
            Due.is("told(0, 0)", x.told(0, 0), 2);
            Due.is("told(1, 0)", x.told(1, 0), 1);
        }
    }

    private static void stolenOneWaitsATick() {
        // It is stolen, then blocked a tick later, with HELP on top of another blocked one.
        BobbinPool x = Due.pool(2, Due.HELP, 0, "fork 1, work 9", "await 0", "await 1");
        x.submit(0);
        x.submit(2);
        x.tick(1);
        Due.states("stolen", x, Due.RUNNING, Due.AWAITING, Due.RUNNING);
        Due.is("stack(1)", x.stack(1), 2);
        Due.is("told(1, 1), as it stole", x.told(1, 1), 0);
        x.tick(1);
        Due.states("a tick later", x, Due.RUNNING, Due.AWAITING, Due.AWAITING);
        Due.is("stack(1)", x.stack(1), 2);
        Due.is("told(1, 1)", x.told(1, 1), 1);
    }

    private static void stolenAreCountedEach() {
        BobbinPool x = rows(new int[] {9, 1, 9, 9, 9}, new int[] {3, 0, 0, 0, 0});
        x.setWay(Due.FREE, 0);
        for (int count = 1; count <= 3; count++) {
            x.tick(1);
            Due.is("told(1, 2)", x.told(1, 2), count);
            Due.is("ran(1, 1), as it stole", x.ran(1, 1), -1);
            x.cancel(x.top(1));
        }
        x.tick(1);
        Due.is("told(1, 2) with none left", x.told(1, 2), 3);
        Due.is("told(1, 1) with none left", x.told(1, 1), 1);
        Due.is("told(1, 0)", x.told(1, 0), 1);
    }

    // ---- term 4: turns

    private static void idleThoughItWentThroughSteps() {
        BobbinPool x = Due.pool("add 1, fork 1, join, keep 0", "add 2");
        x.submit(0);
        x.tick(1);
        Due.is("valueOf(0)", x.valueOf(0), 3);
        Due.is("told(0, 1)", x.told(0, 1), 1);
        Due.is("told(0, 0)", x.told(0, 0), 0);
        Due.is("ran(0, 1)", x.ran(0, 1), -1);
        for (int way = 0; way <= 2; way++) {
            BobbinPool y = Due.pool(1, way, 0, "add 1, await 0");
            y.submit(0);
            y.tick(1);
            Due.is("told(0, 1), as it came to be blocked", y.told(0, 1), 1);
            Due.is("told(0, 0), as it came to be blocked", y.told(0, 0), 0);
        }
    }

    private static void notIdleAsItRan() {
        BobbinPool x = Due.pool("work 1", "add 1, work 1, add 1");
        x.submit(0);
        x.submit(1);
        x.tick(2);
        Due.is("told(0, 0)", x.told(0, 0), 2);
        Due.is("told(0, 1), though the first one was done", x.told(0, 1), 0);
        Due.is("valueOf(1), as the turn was over", x.valueOf(1), 1);
        x.tick(1);
        Due.is("valueOf(1)", x.valueOf(1), 2);
        Due.is("told(0, 1)", x.told(0, 1), 1);
        Due.is("ran(0, 1)", x.ran(0, 1), -1);
        Due.is("ran(0, 2)", x.ran(0, 2), 1);
    }

    private static void turnOfManySteps() {
        BobbinPool x = Due.pool(times(12, "add 1"), "work 1");
        for (int i = 0; i < 23; i++) {
            x.submit(0);
        }
        x.submit(1);
        Due.is("tick(1), through 277 steps", x.tick(1), 0);
        Due.is("ran(0, 1)", x.ran(0, 1), 23);
        Due.is("valueOf(22)", x.valueOf(22), 12);

        // 24 tasks, each with ten steps of joining or trying what is there.
        BobbinPool y = Due.pool(times(5, "fork 0") + ", joinall, joinall, try, join, stop, add 1, keep 0");
        y.submit(0);
        Due.is("tick(1), through all of a tree", y.tick(1), 0);
        Due.is("tasks()", y.tasks(), 24);
        Due.is("told(0, 1)", y.told(0, 1), 1);
    }

    private static void turnEndsAtWork() {
        BobbinPool x = Due.pool("work 1, work 1, add 1, work 2");
        x.submit(0);
        for (int tick = 1; tick <= 4; tick++) {
            x.tick(1);
            Due.is("stepOf(0) behind " + tick, x.stepOf(0), tick);
            Due.is("valueOf(0) behind " + tick, x.valueOf(0), tick < 3 ? 0 : 1);
            Due.is("told(0, 0) behind " + tick, x.told(0, 0), tick);
        }
        Due.is("stateOf(0)", x.stateOf(0), Due.DONE);
    }

    private static void freeLeavesTheStackEmpty() {
        BobbinPool x = Due.pool("await 0", "fork 0, join", "work 9");
        x.submit(0);
        x.submit(1);
        x.tick(1);
        Due.states("blocked", x, Due.AWAITING, Due.JOINING, Due.AWAITING);
        Due.is("stack(0)", x.stack(0), 0);
        Due.is("top(0)", x.top(0), -1);
        x.submit(2);
        x.tick(1);
        Due.is("stack(0)", x.stack(0), 1);
        Due.is("top(0)", x.top(0), 3);
    }

    private static void holdWaitsUnderNothing() {
        BobbinPool x = Due.pool(1, Due.HOLD, 0, "await 0, work 1", "fork 0, join", "work 9");
        x.submit(0);
        x.submit(2);
        x.tick(2);
        Due.states("held", x, Due.AWAITING, Due.READY);
        Due.is("stack(0)", x.stack(0), 1);
        Due.is("told(0, 1)", x.told(0, 1), 2);
        x.keep(0, 0);
        Due.is("stateOf(0)", x.stateOf(0), Due.RUNNING);
        x.tick(1);
        Due.is("ran(0, 1)", x.ran(0, 1), 0);
        x.tick(1);
        Due.is("ran(0, 1)", x.ran(0, 1), 1);
    }

    private static void helpPilesUpAll() {
        BobbinPool x = Due.pool(1, Due.HELP, 0, "await 0");
        for (int i = 0; i < 24; i++) {
            x.submit(0);
        }
        x.tick(1);
        Due.is("stack(0)", x.stack(0), 24);
        Due.is("top(0)", x.top(0), 23);
        Due.is("row(-1)", x.row(-1), 0);
        x.keep(0, 3);
        Due.is("tick(1), from the top to the bottom", x.tick(1), 0);
        Due.is("stack(0)", x.stack(0), 0);
        Due.is("valueOf(0)", x.valueOf(0), 3);
    }

    private static void helpOnlyAboveABlockedOne() {
        BobbinPool x = Due.pool(1, Due.HELP, 0, "await 0", "work 3", "work 1");
        x.submit(0);
        x.submit(1);
        x.submit(2);
        x.tick(2);
        Due.is("stack(0), with one at work on top", x.stack(0), 2);
        Due.is("stateOf(2), as the top is not blocked", x.stateOf(2), Due.READY);
        x.tick(1);
        Due.is("stateOf(2), as the turn was over", x.stateOf(2), Due.READY);
        x.tick(1);
        Due.is("stateOf(2), as the top is blocked", x.stateOf(2), Due.DONE);
    }

    private static void freedUnderAnotherWaits() {
        BobbinPool x = Due.pool(1, Due.HELP, 0, "await 0, add 1", "await 1, work 2");
        x.submit(0);
        x.submit(1);
        x.tick(1);
        x.keep(0, 5);
        x.tick(5);
        Due.states("under a blocked one", x, Due.RUNNING, Due.AWAITING);
        Due.is("valueOf(0), as it is not the top", x.valueOf(0), 0);
        Due.is("told(0, 1)", x.told(0, 1), 6);
        x.keep(1, 0);
        x.tick(1);
        Due.is("valueOf(0), under one at work", x.valueOf(0), 0);
        x.tick(1);
        Due.is("stateOf(0), as the turn was over", x.stateOf(0), Due.RUNNING);
        x.tick(1);
        Due.is("valueOf(0), as it is the top", x.valueOf(0), 6);
    }

    private static void freedInEachWay() {
        int[] states = {Due.READY, Due.RUNNING, Due.RUNNING};
        for (int way = 0; way <= 2; way++) {
            BobbinPool x = Due.pool(1, way, 0, "await 0", "fork 0, join, work 2");
            x.submit(0);
            x.tick(1);
            x.keep(0, 0);
            Due.is("stateOf(0) with the way " + way, x.stateOf(0), states[way]);
            Due.is("row(0) with the way " + way, x.row(0), way == 0 ? 1 : 0);
            Due.is("stack(0) with the way " + way, x.stack(0), way == 0 ? 0 : 1);
        }
    }

    private static void freedOnAnyStack() {
        for (int way = 1; way <= 2; way++) {
            for (int worker = 0; worker < 5; worker++) {
                // Each worker before this one is at work, each behind it finds nothing.
                BobbinPool x = Due.pool(5, way, 2, "work 9", "await 0, work 1");
                for (int i = 0; i < worker; i++) {
                    x.submit(0);
                }
                x.submit(1);
                x.tick(1);
                Due.is("stateOf(" + worker + ")", x.stateOf(worker), Due.AWAITING);
                x.keep(0, 0);
                Due.is("stateOf(" + worker + "), freed on a stack", x.stateOf(worker), Due.RUNNING);
                Due.is("row(" + worker + ")", x.row(worker), 0);
                Due.is("stack(" + worker + ")", x.stack(worker), 1);
                x.tick(1);
                Due.is("ran(" + worker + ", 1)", x.ran(worker, 1), worker);
                Due.is("stack(" + worker + ") as it is done", x.stack(worker), 0);
            }
        }
    }

    private static void workersOneAfterTheOther() {
        // What the worker 1 keeps is there for the worker 2 in the same tick, for the worker 0 in the next one.
        BobbinPool x = Due.pool(3, Due.HOLD, 2, "await 0, work 1", "work 1, keep 0, work 5");
        x.submit(0);
        x.submit(1);
        x.submit(0);
        x.tick(1);
        Due.states("blocked", x, Due.AWAITING, Due.RUNNING, Due.AWAITING);
        x.tick(1);
        Due.states("kept", x, Due.RUNNING, Due.RUNNING, Due.DONE);
        Due.is("told(0, 1)", x.told(0, 1), 2);
        Due.is("told(2, 1)", x.told(2, 1), 1);
        x.tick(1);
        Due.states("a tick later", x, Due.DONE, Due.RUNNING, Due.DONE);
    }

    private static void eachTickIsOneOfThree() {
        for (int way = 0; way <= 2; way++) {
            for (int theft = 0; theft <= 2; theft++) {
                BobbinPool x = Due.pool(5, way, theft, "fork 1, fork 2, fork 1, work 2, joinall, add 1",
                        "work 3, fork 2, await 0, try", "add 1, work 2, stop, fail");
                x.submit(0);
                x.submit(0);
                x.submit(1);
                for (int tick = 1; tick <= 12; tick++) {
                    x.tick(1);
                    for (int worker = 0; worker < 5; worker++) {
                        int sum = x.told(worker, 0) + x.told(worker, 1) + x.told(worker, 2);
                        Due.is("ran, idle or stole, the worker " + worker, sum, tick);
                    }
                }
            }
        }
    }

    // ---- promises 20 to 24

    private static void workersFromOneToFive() {
        BobbinPool x = new BobbinPool();
        Due.is("workers()", x.workers(), 1);
        x.setWorkers(5);
        Due.is("workers()", x.workers(), 5);
        Due.refuses("setWorkers(6)", x, Due.ARGUMENT, () -> x.setWorkers(6));
        Due.refuses("setWorkers(0)", x, Due.ARGUMENT, () -> x.setWorkers(0));
        Due.is("workers()", x.workers(), 5);
        x.alone(x.addJob(), 2, 0);
        Due.is("workers() behind alone()", x.workers(), 5);
    }

    private static void topOfNoneAndOfMany() {
        BobbinPool x = Due.pool(5, Due.HELP, 2, "work 1", "await 0", "work 9");
        for (int worker = 0; worker < 5; worker++) {
            Due.is("top(" + worker + ") without one", x.top(worker), -1);
        }
        for (int i = 0; i < 4; i++) {
            x.submit(0);
        }
        x.submit(1);
        x.submit(1);
        x.submit(2);
        x.tick(1);
        Due.is("top(4), the last one of three", x.top(4), 6);
        Due.is("stack(4)", x.stack(4), 3);
        x.cancel(6);
        Due.is("top(4), the last one of two", x.top(4), 5);
        x.cancel(4);
        Due.is("top(4), the only one", x.top(4), 5);
        x.cancel(5);
        Due.is("top(4), without one", x.top(4), -1);
        for (int worker : new int[] {MIN, -1, 5, MAX}) {
            Due.refuses("top(" + worker + ")", x, Due.INDEX, () -> x.top(worker));
        }
    }

    private static void stackOfNoneAndOfAll() {
        BobbinPool x = Due.pool(5, Due.HELP, 2, "await 0");
        for (int i = 0; i < 24; i++) {
            Due.is("stack(0) before", x.stack(0), 0);
            x.submit(0);
        }
        x.tick(1);
        Due.is("stack(0) of all", x.stack(0), 24);
        for (int worker = 1; worker < 5; worker++) {
            Due.is("stack(" + worker + ") of none", x.stack(worker), 0);
        }
        for (int worker : new int[] {MIN, -1, 5, MAX}) {
            Due.refuses("stack(" + worker + ")", x, Due.INDEX, () -> x.stack(worker));
        }
    }

    private static void rowOfNoneAndOfMany() {
        BobbinPool x = rows(new int[] {9, 9, 9, 9, 9}, new int[] {0, 1, 2, 3, 9});
        for (int worker = 0; worker < 4; worker++) {
            Due.is("row(" + worker + ")", x.row(worker), worker);
        }
        Due.is("row(4)", x.row(4), 9);
        Due.is("row(-1)", x.row(-1), 0);
        x.submit(5);
        Due.is("row(-1) with one", x.row(-1), 1);
        Due.is("row(0) with none", x.row(0), 0);
        for (int worker : new int[] {MIN, -2, 5, MAX}) {
            Due.refuses("row(" + worker + ")", x, Due.INDEX, () -> x.row(worker));
            Due.refuses("inRow(" + worker + ", 0)", x, Due.INDEX, () -> x.inRow(worker, 0));
            Due.refuses("inRow(" + worker + ", -1)", x, Due.INDEX, () -> x.inRow(worker, -1));
        }
    }

    private static void placesFromTheFirstToTheLast() {
        BobbinPool x = rows(new int[] {9, 9, 9, 9, 9}, new int[] {0, 1, 2, 3, 9});
        x.submit(5);
        x.submit(5);
        Due.row("the common row", x, -1, 20, 21);
        Due.row("of none", x, 0);
        Due.row("of one", x, 1, 5);
        Due.row("of two", x, 2, 6, 7);
        Due.row("of three", x, 3, 8, 9, 10);
        Due.row("of nine", x, 4, 11, 12, 13, 14, 15, 16, 17, 18, 19);
        for (int worker = -1; worker < 5; worker++) {
            int asked = worker;
            for (int place : new int[] {MIN, -1, x.row(worker), 24, MAX}) {
                Due.refuses("inRow(" + asked + ", " + place + ")", x, Due.INDEX, () -> x.inRow(asked, place));
            }
        }
    }

    // ---- promises 25 and 26

    private static void toldFromZeroToTwo() {
        BobbinPool x = rows(new int[] {9, 1, 9, 9, 9}, new int[] {1, 0, 0, 0, 0});
        x.tick(2);
        x.setWay(Due.FREE, 0);
        x.tick(1);
        Due.is("told(1, 0)", x.told(1, 0), 1);
        Due.is("told(1, 1)", x.told(1, 1), 2);
        Due.is("told(1, 2)", x.told(1, 2), 1);
        x.tick(3);
        Due.is("told(1, 0)", x.told(1, 0), 4);
        Due.is("told(4, 0)", x.told(4, 0), 7);
        for (int worker = 0; worker < 5; worker++) {
            int asked = worker;
            for (int what : new int[] {MIN, -1, 3, MAX}) {
                Due.refuses("told(" + asked + ", " + what + ")", x, Due.ARGUMENT, () -> x.told(asked, what));
            }
        }
        for (int worker : new int[] {MIN, -1, 5, MAX}) {
            for (int what : new int[] {MIN, -1, 0, 2, 3, MAX}) {
                Due.refuses("told(" + worker + ", " + what + ")", x, Due.INDEX, () -> x.told(worker, what));
            }
        }
    }

    private static void ranFromOneToTwenty() {
        // Each tick another task, so that each place tells one.
        BobbinPool x = Due.pool("work 1");
        for (int i = 0; i < 24; i++) {
            x.submit(0);
        }
        for (int clock = 1; clock <= 24; clock++) {
            x.tick(1);
            Due.is("ran(0, 1)", x.ran(0, 1), clock - 1);
            Due.is("ran(0, 20) behind " + clock, x.ran(0, 20), clock < 20 ? -2 : clock - 20);
        }
        for (int back = 1; back <= 20; back++) {
            Due.is("ran(0, " + back + ")", x.ran(0, back), 24 - back);
        }
        for (int back : new int[] {MIN, -1, 0, 21, 24, MAX}) {
            Due.refuses("ran(0, " + back + ")", x, Due.ARGUMENT, () -> x.ran(0, back));
        }
        for (int worker : new int[] {MIN, -1, 1, MAX}) {
            for (int back : new int[] {MIN, 0, 1, 20, 21, MAX}) {
                Due.refuses("ran(" + worker + ", " + back + ")", x, Due.INDEX, () -> x.ran(worker, back));
            }
        }
    }

    private static void ranOfTicksThatWereNot() {
        BobbinPool x = Due.pool(2, Due.FREE, 0, "work 1");
        x.submit(0);
        for (int clock = 0; clock <= 21; clock++) {
            for (int back = 1; back <= 20; back++) {
                if (back == 1 || back == 20 || back == clock || back == clock + 1) {
                    Due.is("ran(1, " + back + ") behind " + clock, x.ran(1, back), back > clock ? -2 : -1);
                    Due.is("ran(0, " + back + ") behind " + clock, x.ran(0, back),
                            back > clock ? -2 : back == clock ? 0 : -1);
                }
            }
            x.tick(1);
        }
    }

    private static void ranOfOneThatWasNotThere() {
        BobbinPool x = Due.pool("work 20, work 20");
        x.submit(0);
        x.submit(0);
        x.tick(3);
        x.setWorkers(2);
        Due.is("ran(1, 1)", x.ran(1, 1), -1);
        Due.is("ran(1, 3)", x.ran(1, 3), -1);
        Due.is("ran(1, 4)", x.ran(1, 4), -2);
        x.tick(2);
        Due.is("ran(1, 2)", x.ran(1, 2), 1);
        Due.is("ran(1, 3)", x.ran(1, 3), -1);
        Due.is("ran(1, 5)", x.ran(1, 5), -1);
        Due.is("ran(1, 6)", x.ran(1, 6), -2);
        x.tick(16);
        Due.is("ran(1, 18)", x.ran(1, 18), 1);
        Due.is("ran(1, 19)", x.ran(1, 19), -1);
        Due.is("ran(1, 20)", x.ran(1, 20), -1);
        // As one goes and another one comes, it has run nothing.
        x.cancel(1);
        x.setWorkers(1);
        x.tick(1);
        x.setWorkers(2);
        for (int back = 1; back <= 20; back++) {
            Due.is("ran(1, " + back + ") of another one", x.ran(1, back), -1);
        }
        Due.is("ran(0, 20) of one that stayed", x.ran(0, 20), 0);
    }

    // ---- promise 27

    private static void haltedFour() {
        // 0 waits for its child 1 on the same stack, above it: that is freed, but it is not the top.
        BobbinPool x = Due.pool("fork 1, await 0, join", "await 1, await 2");
        x.submit(0);
        x.tick(1);
        Due.is("halted() with both beside the stack", x.halted(), 5);
        x.setWay(Due.HELP, 0);
        x.keep(1, 0);
        x.tick(1);
        Due.is("top(0)", x.top(0), 1);
        x.keep(0, 0);
        Due.is("halted() as one is ready to be taken", x.halted(), 0);
        x.tick(1);
        Due.is("top(0)", x.top(0), 0);
        Due.is("halted() with one awaiting", x.halted(), 5);
        x.keep(2, 0);
        Due.states("joining above what it waits for", x, Due.JOINING, Due.RUNNING);
        Due.is("stack(0)", x.stack(0), 2);
        Due.is("halted() with none awaiting and none ready", x.halted(), 4);
        Due.is("haltsIn(1)", x.haltsIn(1), 0);
        x.tick(5);
        Due.states("no change", x, Due.JOINING, Due.RUNNING);
        x.submit(1);
        Due.is("halted() as one could be taken", x.halted(), 0);
    }

    private static void haltedFiveToSeven() {
        BobbinPool five = Due.pool("await 0");
        five.submit(0);
        Due.is("halted() before", five.halted(), 0);
        five.tick(1);
        Due.is("halted() with one awaiting", five.halted(), 5);
        BobbinPool six = Due.pool(1, Due.HOLD, 0, "fork 1, join", "work 1");
        six.submit(0);
        six.tick(1);
        Due.is("halted() with a joining and a ready one", six.halted(), 6);
        BobbinPool seven = Due.pool(1, Due.HOLD, 0, "await 0", "work 1");
        seven.submit(0);
        seven.submit(1);
        seven.tick(1);
        Due.is("halted() with an awaiting and a ready one", seven.halted(), 7);
        seven.cancel(1);
        Due.is("halted() without the ready one", seven.halted(), 5);
        seven.cancel(0);
        Due.is("halted() without any", seven.halted(), 0);
    }

    private static void notHaltedWithoutTasks() {
        BobbinPool x = Due.pool(5, Due.HOLD, 2, "await 0", "fail");
        Due.is("halted() without tasks", x.halted(), 0);
        Due.is("haltsIn(60) without tasks", x.haltsIn(60), -1);
        x.submit(0);
        x.submit(1);
        x.cancel(0);
        x.tick(1);
        Due.states("over", x, Due.CANCELLED, Due.FAILED);
        Due.is("halted() with all over", x.halted(), 0);
        Due.is("haltsIn(60) with all over", x.haltsIn(60), -1);
    }

    private static void notHaltedAsOneWouldOnlyBeBlocked() {
        BobbinPool x = Due.pool(1, Due.HOLD, 0, "await 0, await 1");
        x.submit(0);
        Due.is("halted() as it would be taken, and be blocked", x.halted(), 0);
        x.tick(1);
        Due.is("halted() as it is blocked", x.halted(), 5);
        x.keep(0, 0);
        Due.is("halted() as it would go on, if only to be blocked", x.halted(), 0);
        Due.is("haltsIn(1)", x.haltsIn(1), 1);
        x.tick(1);
        Due.is("halted() as it is blocked again", x.halted(), 5);
    }

    private static void notHaltedAsOneWouldOnlySteal() {
        for (int theft = 0; theft <= 1; theft++) {
            BobbinPool x = Due.pool(1, Due.HOLD, theft, "fork 1, join", "await 0");
            x.submit(0);
            x.tick(1);
            Due.is("halted() of one worker", x.halted(), 6);
            for (int workers = 2; workers <= 5; workers++) {
                x.setWorkers(workers);
                Due.is("halted() as the last of " + workers + " would steal", x.halted(), 0);
            }
            Due.is("haltsIn(2)", x.haltsIn(2), 2);
            x.tick(1);
            Due.is("halted() as it would go on", x.halted(), 0);
            x.tick(1);
            Due.is("halted() as it is blocked", x.halted(), 5);
        }
    }

    private static void haltedAsNoneMaySteal() {
        BobbinPool x = Due.pool(5, Due.HOLD, 2, "fork 1, join", "await 0");
        x.submit(0);
        x.tick(1);
        Due.is("halted() with theft 2", x.halted(), 6);
        x.submit(1);
        Due.is("halted() as one could be taken from the common row", x.halted(), 0);
        x.tick(1);
        Due.is("halted() as that is blocked", x.halted(), 7);
        // With HELP the worker of the row takes it itself.
        BobbinPool y = Due.pool(5, Due.HELP, 2, "fork 1, join", "work 2");
        y.submit(0);
        y.tick(1);
        Due.is("halted() with HELP", y.halted(), 0);
    }

    // ---- promise 28

    private static void loadOfNone() {
        BobbinPool x = Due.pool(5, Due.FREE, 0, "work 1");
        Due.isReal("load() without ticks", x.load(), 0.0);
        x.tick(1);
        Due.isReal("load() with idle ones alone", x.load(), 0.0);
        BobbinPool y = Due.pool("work 9");
        y.submit(0);
        y.tick(9);
        Due.isReal("load() without idle ones", y.load(), 1.0);
    }

    private static void loadIsNotCut() {
        for (int idle = 1; idle <= 20; idle++) {
            BobbinPool x = Due.pool("work 7");
            x.submit(0);
            x.tick(7);
            x.tick(idle);
            Due.isReal("load() with " + idle + " idle ticks", x.load(), 7.0 / (7.0 + idle));
        }
        // A tick in which one was stolen is neither.
        for (int theft = 0; theft <= 1; theft++) {
            BobbinPool x = rows(new int[] {9, 1, 9, 9, 9}, new int[] {0, 0, 0, 2, 0});
            x.setWay(Due.FREE, theft);
            Due.isReal("load() before", x.load(), 1.0);
            x.tick(1);
            Due.isReal("load() with one stolen", x.load(), 1.0);
            x.cancel(x.top(1));
            x.tick(1);
            Due.isReal("load() with two stolen", x.load(), 1.0);
            x.cancel(x.top(1));
            x.tick(1);
            Due.isReal("load() with an idle tick", x.load(), 17.0 / 18.0);
        }
        // Those that are gone do not count, and those that came begin with nothing.
        BobbinPool x = Due.pool(3, Due.FREE, 0, "work 2");
        x.submit(0);
        x.submit(0);
        x.tick(3);
        Due.isReal("load() of three", x.load(), 4.0 / 9.0);
        x.setWorkers(2);
        Due.isReal("load() of two", x.load(), 4.0 / 6.0);
        x.setWorkers(5);
        Due.isReal("load() with three that came", x.load(), 4.0 / 6.0);
        x.tick(1);
        Due.isReal("load() a tick later", x.load(), 4.0 / 11.0);
    }
}
