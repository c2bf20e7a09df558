/** Promises 4 to 9: setWorkers, setWay, submit, cancel, keep, tick, and what they refuse. */
public final class PoolTest {
    public static void main(String[] args) {
        workersComeAndGo();
        newWorkersHaveRunNothing();
        workersWithTasksStay();
        workersWithBlockedTasksStay();
        workersThatStoleGo();
        waysAndThefts();
        wayStaysWithAStackedTask();
        submittedTasksAreCommon();
        twentyFourTasksAndNoMore();
        cancelTakesATaskAway();
        cancelGoesDownTheTree();
        cancelOfAChainOfAll();
        cancelOfTheLastOfAll();
        cancelFreesTheParent();
        cancelFromAnyPlace();
        promisesAreKeptOnce();
        keepFreesByNumbers();
        ticksGoBy();
        Due.end();
    }

    private static void workersComeAndGo() {
        BobbinPool x = new BobbinPool();
        Due.is("setWorkers(5)", x.setWorkers(5), 1);
        Due.is("workers()", x.workers(), 5);
        Due.is("setWorkers(5) again", x.setWorkers(5), 5);
        Due.is("setWorkers(2)", x.setWorkers(2), 5);
        Due.is("setWorkers(1)", x.setWorkers(1), 2);
        for (int wrong : new int[] {0, -1, 6, Integer.MAX_VALUE, Integer.MIN_VALUE}) {
            Due.refuses("setWorkers(" + wrong + ")", x, Due.ARGUMENT, () -> x.setWorkers(wrong));
        }
        Due.is("workers() behind the refused ones", x.workers(), 1);
    }

    private static void newWorkersHaveRunNothing() {
        BobbinPool x = Due.pool(2, Due.FREE, 0, "work 2");
        x.submit(0);
        x.submit(0);
        Due.is("tick(3)", x.tick(3), 0);
        Due.is("told(1, 0)", x.told(1, 0), 2);
        Due.is("told(1, 1)", x.told(1, 1), 1);
        Due.is("ran(1, 3)", x.ran(1, 3), 1);
        x.setWorkers(1);
        Due.is("setWorkers(3)", x.setWorkers(3), 1);
        for (int worker = 1; worker <= 2; worker++) {
            for (int what = 0; what <= 2; what++) {
                Due.is("told(" + worker + ", " + what + ") of a new one", x.told(worker, what), 0);
            }
            Due.is("ran(" + worker + ", 2) of a new one", x.ran(worker, 2), -1);
            Due.is("ran(" + worker + ", 3) of a new one", x.ran(worker, 3), -1);
            Due.is("ran(" + worker + ", 4) of a new one", x.ran(worker, 4), -2);
        }
        Due.is("told(0, 0) of one that stayed", x.told(0, 0), 2);
        Due.is("ran(0, 3) of one that stayed", x.ran(0, 3), 0);
        Due.isReal("load() of those that are there", x.load(), 2.0 / 3.0);
    }

    private static void workersWithTasksStay() {
        BobbinPool x = Due.pool(3, Due.FREE, 2, "work 5, fork 1, work 1", "work 1");
        x.submit(0);
        x.submit(0);
        Due.is("tick(1)", x.tick(1), 2);
        Due.refuses("setWorkers(1) with a task on the stack of the worker 1", x, Due.STATE, () -> x.setWorkers(1));
        Due.is("setWorkers(2)", x.setWorkers(2), 3);
        x.tick(5);
        // The worker 1 forked the task 3 into its row and is done with the task 1.
        Due.states("in the row", x, Due.DONE, Due.DONE, Due.READY, Due.READY);
        Due.row("in the row", x, 1, 3);
        Due.is("stack(1)", x.stack(1), 0);
        Due.refuses("setWorkers(1) with a task in the row of the worker 1", x, Due.STATE, () -> x.setWorkers(1));
        Due.refuses("setWorkers(0) with a task in the row", x, Due.ARGUMENT, () -> x.setWorkers(0));
        x.cancel(3);
        Due.is("setWorkers(1) without it", x.setWorkers(1), 2);
    }

    private static void workersWithBlockedTasksStay() {
        BobbinPool x = Due.pool(2, Due.FREE, 0, "work 1", "await 3, work 1");
        x.submit(0);
        x.submit(1);
        Due.is("tick(1)", x.tick(1), 1);
        Due.is("stack(1) as it is awaiting", x.stack(1), 0);
        Due.is("row(1) as it is awaiting", x.row(1), 0);
        Due.refuses("setWorkers(1) with a task blocked on the worker 1", x, Due.STATE, () -> x.setWorkers(1));
        Due.is("setWorkers(4)", x.setWorkers(4), 2);
        Due.is("setWorkers(2)", x.setWorkers(2), 4);
        x.keep(3, 7);
        Due.row("freed", x, 1, 1);
        Due.refuses("setWorkers(1) with the freed one in the row", x, Due.STATE, () -> x.setWorkers(1));
        // The worker 0 has nothing and steals it; a tick later it runs there.
        x.tick(1);
        Due.is("top(0)", x.top(0), 1);
        Due.is("setWorkers(1) as it was stolen", x.setWorkers(1), 2);
        Due.is("tick(1)", x.tick(1), 0);
        Due.is("valueOf(1)", x.valueOf(1), 7);

        BobbinPool y = Due.pool(2, Due.FREE, 0, "work 1", "fork 2, join", "work 9");
        y.submit(0);
        y.submit(1);
        y.tick(1);
        Due.states("joining", y, Due.DONE, Due.JOINING, Due.RUNNING);
        y.cancel(2);
        Due.row("freed by a cancelled child", y, 1, 1);
        y.cancel(1);
        Due.is("setWorkers(1) with a cancelled task that was blocked there", y.setWorkers(1), 2);
    }

    private static void workersThatStoleGo() {
        BobbinPool x = Due.pool(2, Due.FREE, 0, "fork 1, fork 1, work 5", "await 0");
        x.submit(0);
        x.tick(2);
        Due.is("told(1, 2)", x.told(1, 2), 2);
        x.cancel(1);
        x.cancel(2);
        Due.is("setWorkers(1)", x.setWorkers(1), 2);
        x.setWorkers(2);
        Due.is("told(1, 2) of a new one", x.told(1, 2), 0);

        // The task 0 is blocked on the worker 1, that took it from the common row.
        BobbinPool y = Due.pool("await 0", "work 9");
        y.submit(0);
        y.submit(1);
        y.setWorkers(2);
        y.tick(1);
        Due.is("top(0)", y.top(0), 1);
        Due.is("setWorkers(1), as it was blocked on the worker 0", y.setWorkers(1), 2);
        BobbinPool z = Due.pool(2, Due.FREE, 0, "work 1, await 0", "work 9", "work 1, fork 0, work 9");
        z.submit(1);
        z.submit(0);
        z.cancel(0);
        z.submit(1);
        z.tick(2);
        Due.states("blocked on the worker 0", z, Due.CANCELLED, Due.AWAITING, Due.RUNNING);
        Due.is("top(1)", z.top(1), 2);
        Due.refuses("setWorkers(1) with the running one", z, Due.STATE, () -> z.setWorkers(1));
        z.cancel(2);
        Due.is("setWorkers(1) with one blocked on the worker 0", z.setWorkers(1), 2);

        // The task 0 itself, stolen by the worker 1 as it is freed, and blocked there again.
        BobbinPool w = Due.pool("work 1, await 0, await 1", "work 9");
        w.submit(0);
        w.tick(2);
        w.submit(1);
        w.tick(1);
        w.keep(0, 1);
        w.setWorkers(2);
        w.tick(2);
        Due.states("blocked on the worker 1", w, Due.AWAITING, Due.RUNNING);
        Due.refuses("setWorkers(1) with the task 0 blocked on the worker 1", w, Due.STATE, () -> w.setWorkers(1));
        w.keep(1, 1);
        Due.row("freed there", w, 1, 0);
    }

    private static void waysAndThefts() {
        BobbinPool x = new BobbinPool();
        Due.is("setWay(2, 1)", x.setWay(2, 1), 0);
        Due.is("setWay(1, 2)", x.setWay(1, 2), 2);
        Due.is("setWay(0, 0)", x.setWay(0, 0), 1);
        int[][] wrong = {{3, 0}, {-1, 0}, {0, 3}, {0, -1}, {Integer.MIN_VALUE, 1}, {1, Integer.MAX_VALUE}};
        for (int[] pair : wrong) {
            Due.refuses("setWay(" + pair[0] + ", " + pair[1] + ")", x, Due.ARGUMENT, () -> x.setWay(pair[0], pair[1]));
        }
        Due.is("setWay(0, 0) behind the refused ones", x.setWay(0, 0), 0);
    }

    private static void wayStaysWithAStackedTask() {
        BobbinPool x = Due.pool(2, Due.FREE, 0, "work 9, fork 1, work 9", "work 1");
        x.submit(0);
        x.tick(9);
        Due.refuses("setWay(1, 0) with a task on a stack", x, Due.STATE, () -> x.setWay(1, 0));
        Due.refuses("setWay(3, 0) with a task on a stack", x, Due.ARGUMENT, () -> x.setWay(3, 0));
        Due.refuses("setWay(1, 3) with a task on a stack", x, Due.ARGUMENT, () -> x.setWay(1, 3));
        Due.is("setWay(0, 2) with a task on a stack", x.setWay(0, 2), 0);
        x.tick(2);
        Due.is("row(0) with the new theft", x.row(0), 1);
        Due.is("told(1, 2) with the new theft", x.told(1, 2), 0);
        x.setWay(0, 1);
        x.tick(1);
        Due.is("told(1, 2) with theft 1", x.told(1, 2), 1);

        // On the stack of another worker than the first one.
        BobbinPool y = Due.pool(2, Due.HOLD, 2, "work 1", "work 9");
        y.submit(0);
        y.submit(1);
        y.tick(2);
        Due.is("stack(0)", y.stack(0), 0);
        Due.refuses("setWay(2, 0) with a task on the stack 1", y, Due.STATE, () -> y.setWay(2, 0));
        y.cancel(1);
        Due.is("setWay(2, 0) without it", y.setWay(2, 0), 1);

        // With tasks in rows, or blocked beside the stacks, another way may come.
        BobbinPool z = Due.pool("await 0", "work 1");
        z.submit(0);
        z.tick(1);
        z.submit(1);
        Due.is("setWay(1, 0) with a blocked and a ready one", z.setWay(1, 0), 0);
        z.keep(0, 4);
        Due.row("freed from no stack with HOLD", z, 0, 0);
        Due.states("freed from no stack with HOLD", z, Due.READY, Due.READY);
    }

    private static void submittedTasksAreCommon() {
        BobbinPool x = Due.pool("work 1", "");
        Due.is("submit(0)", x.submit(0), 0);
        Due.is("submit(1)", x.submit(1), 1);
        Due.is("submit(0)", x.submit(0), 2);
        Due.row("asked for", x, -1, 0, 1, 2);
        Due.row("asked for", x, 0);
        Due.states("asked for", x, Due.READY, Due.READY, Due.READY);
        Due.is("parentOf(1)", x.parentOf(1), -1);
        Due.is("valueOf(1)", x.valueOf(1), 0);
        Due.is("overAt(1)", x.overAt(1), -1);
        for (int wrong : new int[] {-1, 2, 8, Integer.MAX_VALUE, Integer.MIN_VALUE}) {
            Due.refuses("submit(" + wrong + ")", x, Due.INDEX, () -> x.submit(wrong));
        }
    }

    private static void twentyFourTasksAndNoMore() {
        BobbinPool x = Due.pool("add 1");
        for (int task = 0; task < 24; task++) {
            Due.is("submit(0)", x.submit(0), task);
        }
        Due.refuses("submit(0) of a 25th", x, Due.STATE, () -> x.submit(0));
        Due.refuses("submit(1) with 24", x, Due.INDEX, () -> x.submit(1));
        Due.is("tick(1)", x.tick(1), 0);
        Due.refuses("submit(0) with 24 that are over", x, Due.STATE, () -> x.submit(0));
        Due.is("valueOf(23)", x.valueOf(23), 1);
    }

    private static void cancelTakesATaskAway() {
        BobbinPool x = Due.pool("work 5");
        x.submit(0);
        x.submit(0);
        x.submit(0);
        x.tick(2);
        Due.is("cancel(1) in the common row", x.cancel(1), 1);
        Due.row("the rest", x, -1, 2);
        Due.is("cancel(0) on the stack", x.cancel(0), 1);
        Due.is("top(0)", x.top(0), -1);
        Due.is("stack(0)", x.stack(0), 0);
        Due.states("cancelled", x, Due.CANCELLED, Due.CANCELLED, Due.READY);
        Due.is("overAt(0)", x.overAt(0), 2);
        Due.is("stepOf(0)", x.stepOf(0), 0);
        for (int wrong : new int[] {-1, 3, 24, Integer.MAX_VALUE, Integer.MIN_VALUE}) {
            Due.refuses("cancel(" + wrong + ")", x, Due.INDEX, () -> x.cancel(wrong));
        }
        Due.refuses("cancel(0) again", x, Due.STATE, () -> x.cancel(0));
        x.tick(6);
        Due.refuses("cancel(2) of a done one", x, Due.STATE, () -> x.cancel(2));
    }

    private static void cancelGoesDownTheTree() {
        // 0 forks 1 and 2, and waits for 2, which forks 3 and is done, so that 0 is done; 1 is left in the row.
        BobbinPool x = Due.pool(1, Due.FREE, 2, "fork 1, fork 2, join", "fork 3, work 9", "fork 3", "work 9");
        x.submit(0);
        x.tick(1);
        Due.states("forked", x, Due.DONE, Due.READY, Due.DONE, Due.RUNNING);
        x.cancel(3);
        x.tick(1);
        x.tick(1);
        Due.states("joined one", x, Due.DONE, Due.RUNNING, Due.DONE, Due.CANCELLED, Due.READY);
        Due.is("cancel(1)", x.cancel(1), 2);
        Due.states("cancelled", x, Due.DONE, Due.CANCELLED, Due.DONE, Due.CANCELLED, Due.CANCELLED);

        // What a child that is over forked goes on.
        BobbinPool y = Due.pool(1, Due.FREE, 2, "fork 1, work 9", "fork 2", "work 9");
        y.setWorkers(2);
        y.setWay(Due.FREE, 0);
        y.submit(0);
        y.tick(2);
        Due.states("a grandchild", y, Due.RUNNING, Due.DONE, Due.RUNNING);
        Due.is("cancel(0)", y.cancel(0), 1);
        Due.states("the grandchild goes on", y, Due.CANCELLED, Due.DONE, Due.RUNNING);
        Due.is("childrenOf(0) as it is cancelled", y.childrenOf(0), Due.set(1));
    }

    private static void cancelOfAChainOfAll() {
        // Each forks the next one and waits for it; the last one finds no room, and waits for a promise.
        BobbinPool x = Due.pool("fork 0, join, await 0");
        x.submit(0);
        x.tick(1);
        Due.is("tasks()", x.tasks(), 24);
        Due.is("parentOf(23)", x.parentOf(23), 22);
        Due.is("stateOf(22)", x.stateOf(22), Due.JOINING);
        Due.is("stateOf(23)", x.stateOf(23), Due.AWAITING);
        Due.is("cancel(1), that is all but the first one", x.cancel(1), 23);
        Due.is("stateOf(23)", x.stateOf(23), Due.CANCELLED);
        Due.row("the first one is freed, and no other one", x, 0, 0);

        BobbinPool y = Due.pool("fork 0, join, await 0");
        y.submit(0);
        y.tick(1);
        Due.is("cancel(0), that is all", y.cancel(0), 24);
        Due.row("nothing is left", y, 0);
        Due.is("tick(1)", y.tick(1), 0);

        BobbinPool z = Due.pool("fork 1, await 0, stop", "fork 1, join, await 1");
        z.submit(0);
        z.tick(1);
        z.keep(0, 0);
        Due.is("tick(1), as the first one stops all others", z.tick(1), 0);
        Due.is("stateOf(0)", z.stateOf(0), Due.DONE);
        Due.is("stateOf(1)", z.stateOf(1), Due.CANCELLED);
        Due.is("stateOf(23)", z.stateOf(23), Due.CANCELLED);
    }

    private static void cancelOfTheLastOfAll() {
        BobbinPool x = Due.pool("fork 1, fork 1, work 9", "work 9");
        for (int i = 0; i < 21; i++) {
            x.submit(1);
        }
        x.submit(0);
        x.setWorkers(5);
        for (int task = 0; task < 21; task++) {
            x.cancel(task);
        }
        x.tick(1);
        Due.is("childrenOf(21)", x.childrenOf(21), Due.set(22, 23));
        Due.is("cancel(21)", x.cancel(21), 3);
        Due.is("stateOf(23)", x.stateOf(23), Due.CANCELLED);
        Due.is("stateOf(22)", x.stateOf(22), Due.CANCELLED);
    }

    private static void cancelFreesTheParent() {
        BobbinPool x = Due.pool(1, Due.HOLD, 0, "fork 1, fork 1, join, add 5", "work 9");
        x.submit(0);
        x.tick(1);
        Due.states("joining", x, Due.JOINING, Due.READY, Due.READY);
        Due.is("cancel(1), that it does not wait for", x.cancel(1), 1);
        Due.states("still joining", x, Due.JOINING, Due.CANCELLED, Due.READY);
        Due.is("cancel(2), that it waits for", x.cancel(2), 1);
        Due.states("freed", x, Due.RUNNING, Due.CANCELLED, Due.CANCELLED);
        Due.is("childrenOf(0) before it goes on", x.childrenOf(0), Due.set(1, 2));
        x.tick(1);
        Due.is("childrenOf(0) as it has joined", x.childrenOf(0), Due.set(1));
        Due.is("valueOf(0)", x.valueOf(0), 5);
        Due.is("stateOf(0)", x.stateOf(0), Due.DONE);
    }

    private static void cancelFromAnyPlace() {
        // With HELP the stack holds 0 (joining), 3 and 2 (both awaiting); the one in the middle is cancelled.
        BobbinPool x = Due.pool(1, Due.HELP, 0, "fork 1, fork 1, fork 1, joinall", "await 0");
        x.submit(0);
        x.tick(1);
        Due.is("stack(0)", x.stack(0), 4);
        Due.is("top(0)", x.top(0), 1);
        Due.is("cancel(2) in the middle", x.cancel(2), 1);
        Due.is("stack(0) without it", x.stack(0), 3);
        Due.is("top(0) without it", x.top(0), 1);
        Due.is("cancel(1) on the top", x.cancel(1), 1);
        Due.is("top(0) then", x.top(0), 3);
        Due.is("cancel(0) under it, and that", x.cancel(0), 2);
        Due.is("stack(0) at last", x.stack(0), 0);
    }

    private static void promisesAreKeptOnce() {
        BobbinPool x = new BobbinPool();
        Due.is("keep(0, -999)", x.keep(0, -999) ? 1 : 0, 1);
        Due.is("keep(5, 999)", x.keep(5, 999) ? 1 : 0, 1);
        Due.is("keep(2, 0)", x.keep(2, 0) ? 1 : 0, 1);
        Due.is("keep(2, 1) again", x.keep(2, 1) ? 1 : 0, 0);
        Due.is("promise(0)", x.promise(0), -999);
        Due.is("promise(1)", x.promise(1), Due.NOT_KEPT);
        Due.is("promise(2)", x.promise(2), 0);
        Due.is("promise(5)", x.promise(5), 999);
        for (int wrong : new int[] {-1, 6, Integer.MAX_VALUE, Integer.MIN_VALUE}) {
            Due.refuses("keep(" + wrong + ", 0)", x, Due.INDEX, () -> x.keep(wrong, 0));
            Due.refuses("keep(" + wrong + ", 1000)", x, Due.INDEX, () -> x.keep(wrong, 1000));
        }
        for (int wrong : new int[] {-1000, 1000, Integer.MAX_VALUE, Integer.MIN_VALUE}) {
            Due.refuses("keep(1, " + wrong + ")", x, Due.ARGUMENT, () -> x.keep(1, wrong));
            Due.refuses("keep(2, " + wrong + ") of a kept one", x, Due.ARGUMENT, () -> x.keep(2, wrong));
        }
    }

    private static void keepFreesByNumbers() {
        // The tasks 0 and 3 wait for one promise, 1 for another; 2 works. 3 is blocked first.
        BobbinPool x = Due.pool(1, Due.FREE, 0, "await 1", "await 2", "work 1", "add 3, await 1, work 1");
        x.submit(0);
        x.submit(1);
        x.submit(2);
        x.submit(3);
        Due.is("tick(2)", x.tick(2), 3);
        Due.states("awaiting", x, Due.AWAITING, Due.AWAITING, Due.DONE, Due.AWAITING);
        Due.is("keep(1, 40)", x.keep(1, 40) ? 1 : 0, 1);
        Due.states("freed", x, Due.READY, Due.AWAITING, Due.DONE, Due.READY);
        Due.row("freed", x, 0, 0, 3);
        Due.is("stepOf(3)", x.stepOf(3), 1);
        x.tick(1);
        // The last one of the row is taken first, so that the task 0 still waits in it.
        Due.is("ran(0, 1)", x.ran(0, 1), 3);
        Due.is("valueOf(3)", x.valueOf(3), 43);
        x.tick(1);
        Due.is("valueOf(0)", x.valueOf(0), 40);
        Due.states("one is left", x, Due.DONE, Due.AWAITING, Due.DONE, Due.DONE);
    }

    private static void ticksGoBy() {
        BobbinPool x = Due.pool("work 20, work 20, work 20");
        x.submit(0);
        x.submit(0);
        Due.is("tick(40)", x.tick(40), 2);
        Due.is("clock()", x.clock(), 40);
        Due.is("tick(20)", x.tick(20), 1);
        Due.is("tick(1)", x.tick(1), 1);
        Due.is("clock()", x.clock(), 61);
        for (int wrong : new int[] {0, -1, 41, Integer.MAX_VALUE, Integer.MIN_VALUE}) {
            Due.refuses("tick(" + wrong + ")", x, Due.ARGUMENT, () -> x.tick(wrong));
        }
        Due.is("tick(40)", x.tick(40), 1);
        Due.is("tick(19)", x.tick(19), 0);
        Due.is("overAt(1)", x.overAt(1), 119);
    }
}
