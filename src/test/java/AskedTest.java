/** Promises 10 to 26 and 28: what tasks, promises and workers answer, and what is refused. */
public final class AskedTest {
    private static final int[] FAR = {-1, Integer.MAX_VALUE, Integer.MIN_VALUE};

    public static void main(String[] args) {
        clockAndTasks();
        noSuchTask();
        stepsAsked();
        parentsAndChildren();
        workOfAllBelow();
        overAtTheClock();
        promisesAsked();
        noSuchWorker();
        stacksAsked();
        rowsAsked();
        toldAsked();
        ranAsked();
        ranOfNewWorkers();
        loadAsked();
        Due.end();
    }

    private static void clockAndTasks() {
        BobbinPool x = Due.pool("fork 1, join", "add 1");
        Due.is("clock()", x.clock(), 0);
        x.tick(3);
        Due.is("clock()", x.clock(), 3);
        x.submit(0);
        Due.is("tasks()", x.tasks(), 1);
        x.tick(1);
        Due.is("tasks() with the forked one", x.tasks(), 2);
        Due.is("clock()", x.clock(), 4);
        Due.is("stateOf(1)", x.stateOf(1), Due.DONE);
    }

    private static void noSuchTask() {
        BobbinPool x = Due.pool("work 1");
        for (int count = 0; count <= 2; count++) {
            for (int wrong : new int[] {count, FAR[0], FAR[1], FAR[2]}) {
                Due.refuses("stateOf(" + wrong + ")", x, Due.INDEX, () -> x.stateOf(wrong));
                Due.refuses("valueOf(" + wrong + ")", x, Due.INDEX, () -> x.valueOf(wrong));
                Due.refuses("stepOf(" + wrong + ")", x, Due.INDEX, () -> x.stepOf(wrong));
                Due.refuses("parentOf(" + wrong + ")", x, Due.INDEX, () -> x.parentOf(wrong));
                Due.refuses("childrenOf(" + wrong + ")", x, Due.INDEX, () -> x.childrenOf(wrong));
                Due.refuses("workOf(" + wrong + ")", x, Due.INDEX, () -> x.workOf(wrong));
                Due.refuses("overAt(" + wrong + ")", x, Due.INDEX, () -> x.overAt(wrong));
            }
            x.submit(0);
        }
        Due.is("stateOf(2)", x.stateOf(2), Due.READY);
    }

    private static void stepsAsked() {
        BobbinPool x = Due.pool("add 1, work 2, add 1", "work 1, fail", "work 1, work 9");
        for (int job = 0; job < 3; job++) {
            x.submit(job);
        }
        Due.is("stepOf(0) of a ready one", x.stepOf(0), 0);
        x.tick(1);
        Due.is("stepOf(0) at work", x.stepOf(0), 1);
        x.tick(1);
        Due.is("stepOf(0) behind the work", x.stepOf(0), 2);
        x.tick(1);
        Due.is("stepOf(0) of a done one", x.stepOf(0), 3);
        x.tick(1);
        Due.is("stepOf(1) of a failed one", x.stepOf(1), 1);
        Due.is("valueOf(0)", x.valueOf(0), 2);
        x.tick(2);
        x.cancel(2);
        Due.is("stepOf(2) of a cancelled one", x.stepOf(2), 1);
    }

    private static void parentsAndChildren() {
        BobbinPool x = Due.pool("fork 1, fork 1, fork 1, work 3, join, work 9", "fork 2, work 1", "add 1");
        x.setWorkers(2);
        x.setWay(Due.FREE, 2);
        x.submit(1);
        x.submit(0);
        x.tick(1);
        // The worker 0 has the task 0 and its child in the row, 1 forks on the worker 1.
        Due.is("parentOf(0)", x.parentOf(0), -1);
        Due.is("parentOf(2)", x.parentOf(2), 0);
        Due.is("childrenOf(0)", x.childrenOf(0), Due.set(2));
        Due.is("childrenOf(1)", x.childrenOf(1), Due.set(3, 4, 5));
        Due.is("parentOf(5)", x.parentOf(5), 1);
        x.setWay(Due.FREE, 0);
        // The worker 0 does the task 2 and steals 3; then it forks 6 and runs it.
        x.tick(2);
        Due.is("childrenOf(3)", x.childrenOf(3), Due.set(6));
        Due.is("parentOf(6)", x.parentOf(6), 3);
        Due.is("parentOf(3)", x.parentOf(3), 1);
    }

    private static void workOfAllBelow() {
        BobbinPool x = Due.pool("fork 1, work 2, join, work 1", "work 1, fork 2, join, fork 2, work 1", "work 3",
                "work 4");
        x.submit(0);
        x.submit(3);
        x.tick(15);
        // 0 runs 3 ticks, its child 1 runs 2, and the children 3 and 4 of that run 3 each.
        Due.is("workOf(0)", x.workOf(0), 11);
        Due.is("workOf(1), of another tree", x.workOf(1), 4);
        Due.is("workOf(2), also of what it did not join", x.workOf(2), 8);
        Due.is("workOf(3)", x.workOf(3), 3);
        Due.is("workOf(4)", x.workOf(4), 3);
        Due.is("told(0, 0)", x.told(0, 0), 15);

        // What a cancelled one ran stays told.
        BobbinPool y = Due.pool("fork 1, join", "work 9");
        y.submit(0);
        y.tick(4);
        y.cancel(1);
        y.tick(2);
        Due.is("workOf(0) with a cancelled one", y.workOf(0), 4);
        Due.is("workOf(1) of a cancelled one", y.workOf(1), 4);
    }

    private static void overAtTheClock() {
        BobbinPool x = Due.pool("work 2", "fail", "work 9");
        x.submit(0);
        x.submit(1);
        x.submit(2);
        x.submit(2);
        x.tick(1);
        Due.is("overAt(0) of one that is not", x.overAt(0), -1);
        x.tick(1);
        Due.is("overAt(0) of a done one", x.overAt(0), 1);
        x.tick(3);
        Due.is("overAt(1) of a failed one", x.overAt(1), 2);
        x.cancel(3);
        Due.is("overAt(3) of a cancelled one", x.overAt(3), 5);
        x.tick(1);
        Due.is("overAt(3) stays", x.overAt(3), 5);
    }

    private static void promisesAsked() {
        BobbinPool x = Due.pool("add -7, keep 5");
        x.submit(0);
        Due.is("promise(5) before", x.promise(5), Due.NOT_KEPT);
        x.tick(1);
        Due.is("promise(5)", x.promise(5), -7);
        Due.is("promise(0)", x.promise(0), Due.NOT_KEPT);
        for (int wrong : new int[] {6, FAR[0], FAR[1], FAR[2]}) {
            Due.refuses("promise(" + wrong + ")", x, Due.INDEX, () -> x.promise(wrong));
        }
    }

    private static void noSuchWorker() {
        BobbinPool x = new BobbinPool();
        x.setWorkers(3);
        for (int count = 3; count >= 1; count--) {
            x.setWorkers(count);
            for (int wrong : new int[] {count, 5, FAR[0], FAR[1], FAR[2]}) {
                Due.refuses("top(" + wrong + ")", x, Due.INDEX, () -> x.top(wrong));
                Due.refuses("stack(" + wrong + ")", x, Due.INDEX, () -> x.stack(wrong));
                Due.refuses("told(" + wrong + ", 0)", x, Due.INDEX, () -> x.told(wrong, 0));
                Due.refuses("told(" + wrong + ", 3)", x, Due.INDEX, () -> x.told(wrong, 3));
                Due.refuses("ran(" + wrong + ", 1)", x, Due.INDEX, () -> x.ran(wrong, 1));
                Due.refuses("ran(" + wrong + ", 0)", x, Due.INDEX, () -> x.ran(wrong, 0));
                if (wrong != -1) {
                    Due.refuses("row(" + wrong + ")", x, Due.INDEX, () -> x.row(wrong));
                    Due.refuses("inRow(" + wrong + ", 0)", x, Due.INDEX, () -> x.inRow(wrong, 0));
                }
            }
        }
        Due.refuses("row(-2)", x, Due.INDEX, () -> x.row(-2));
        Due.refuses("inRow(-2, 0)", x, Due.INDEX, () -> x.inRow(-2, 0));
        Due.is("top(0)", x.top(0), -1);
    }

    private static void stacksAsked() {
        BobbinPool x = Due.pool(2, Due.HELP, 2, "await 0", "work 2", "await 1");
        x.submit(0);
        x.submit(2);
        x.submit(1);
        x.tick(1);
        Due.is("stack(0)", x.stack(0), 3);
        Due.is("top(0)", x.top(0), 2);
        x.tick(1);
        Due.is("stack(0) without the done one", x.stack(0), 2);
        Due.is("top(0) without the done one", x.top(0), 1);
        Due.is("stack(1)", x.stack(1), 0);
        Due.is("top(1)", x.top(1), -1);
    }

    private static void rowsAsked() {
        BobbinPool x = Due.pool("fork 1, fork 1, work 9", "work 9");
        x.submit(0);
        x.submit(1);
        x.submit(1);
        x.tick(1);
        Due.row("the common row", x, -1, 1, 2);
        Due.row("the row 0", x, 0, 3, 4);
        for (int worker = -1; worker <= 0; worker++) {
            int asked = worker;
            for (int wrong : new int[] {2, 24, FAR[0], FAR[1], FAR[2]}) {
                Due.refuses("inRow(" + asked + ", " + wrong + ")", x, Due.INDEX, () -> x.inRow(asked, wrong));
            }
        }
        x.cancel(1);
        Due.row("the common row, without its first one", x, -1, 2);
        x.cancel(4);
        Due.row("the row 0, without its last one", x, 0, 3);
        Due.refuses("inRow(0, 1)", x, Due.INDEX, () -> x.inRow(0, 1));
    }

    private static void toldAsked() {
        BobbinPool x = Due.pool(2, Due.FREE, 0, "fork 1, work 4", "work 1");
        x.submit(0);
        x.tick(5);
        Due.is("told(0, 0)", x.told(0, 0), 4);
        Due.is("told(0, 1)", x.told(0, 1), 1);
        Due.is("told(0, 2)", x.told(0, 2), 0);
        Due.is("told(1, 0)", x.told(1, 0), 1);
        Due.is("told(1, 1)", x.told(1, 1), 3);
        Due.is("told(1, 2)", x.told(1, 2), 1);
        for (int wrong : new int[] {3, FAR[0], FAR[1], FAR[2]}) {
            Due.refuses("told(0, " + wrong + ")", x, Due.ARGUMENT, () -> x.told(0, wrong));
        }
    }

    private static void ranAsked() {
        BobbinPool x = Due.pool("work 1", "work 2", "await 0");
        x.submit(1);
        x.submit(2);
        x.submit(0);
        x.submit(1);
        x.tick(3);
        Due.is("ran(0, 1)", x.ran(0, 1), 2);
        Due.is("ran(0, 2)", x.ran(0, 2), 0);
        Due.is("ran(0, 3)", x.ran(0, 3), 0);
        Due.is("ran(0, 4), before the first tick", x.ran(0, 4), -2);
        Due.is("ran(0, 20), before the first tick", x.ran(0, 20), -2);
        x.tick(16);
        // 19 ticks: two with 0, one with 2, two with 3, and then none.
        Due.is("ran(0, 1)", x.ran(0, 1), -1);
        Due.is("ran(0, 14)", x.ran(0, 14), -1);
        Due.is("ran(0, 15)", x.ran(0, 15), 3);
        Due.is("ran(0, 16)", x.ran(0, 16), 3);
        Due.is("ran(0, 17)", x.ran(0, 17), 2);
        Due.is("ran(0, 19)", x.ran(0, 19), 0);
        Due.is("ran(0, 20)", x.ran(0, 20), -2);
        x.tick(1);
        Due.is("ran(0, 20)", x.ran(0, 20), 0);
        x.tick(1);
        Due.is("ran(0, 20)", x.ran(0, 20), 0);
        x.tick(1);
        Due.is("ran(0, 20)", x.ran(0, 20), 2);
        Due.is("ran(0, 1)", x.ran(0, 1), -1);
        for (int wrong : new int[] {0, 21, FAR[0], FAR[1], FAR[2]}) {
            Due.refuses("ran(0, " + wrong + ")", x, Due.ARGUMENT, () -> x.ran(0, wrong));
        }
    }

    private static void ranOfNewWorkers() {
        BobbinPool x = Due.pool("work 9");
        x.submit(0);
        x.submit(0);
        x.tick(2);
        x.setWorkers(2);
        Due.is("ran(1, 1) before it was there", x.ran(1, 1), -1);
        x.tick(3);
        Due.is("ran(1, 3)", x.ran(1, 3), 1);
        Due.is("ran(1, 4) before it was there", x.ran(1, 4), -1);
        Due.is("ran(1, 5) before it was there", x.ran(1, 5), -1);
        Due.is("ran(1, 6) before the first tick", x.ran(1, 6), -2);
        x.cancel(1);
        x.setWorkers(1);
        x.setWorkers(2);
        Due.is("ran(1, 1) of a new one of that number", x.ran(1, 1), -1);
        Due.is("ran(1, 3) of a new one of that number", x.ran(1, 3), -1);
        Due.is("told(1, 0) of a new one of that number", x.told(1, 0), 0);
    }

    private static void loadAsked() {
        BobbinPool x = Due.pool(3, Due.FREE, 0, "work 2", "work 1");
        Due.isReal("load() before any tick", x.load(), 0.0);
        x.submit(0);
        x.submit(1);
        x.tick(1);
        Due.isReal("load()", x.load(), 2.0 / 3.0);
        x.tick(1);
        Due.isReal("load()", x.load(), 0.5);
        x.tick(5);
        Due.isReal("load()", x.load(), 3.0 / 21.0);
        x.setWorkers(1);
        Due.isReal("load() of those that are there", x.load(), 2.0 / 7.0);

        // A tick in which one is stolen counts as neither.
        BobbinPool y = Due.pool(2, Due.FREE, 0, "fork 1, work 2", "work 1");
        y.submit(0);
        y.tick(1);
        Due.isReal("load() with a theft", y.load(), 1.0);
        y.tick(2);
        Due.isReal("load() with a theft", y.load(), 0.6);
    }
}
