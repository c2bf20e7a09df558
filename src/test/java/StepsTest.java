import java.util.Collections;

/** Term 2: what each step does, when tasks are done at once, and how blocked ones are freed. */
public final class StepsTest {
    public static void main(String[] args) {
        workRunsForItsTicks();
        doneAtOnceBehindTheLastStep();
        scriptWithoutSteps();
        forkGivesAReadyChild();
        forkWithoutRoomDoesNothing();
        joinOfADoneChild();
        joinOfAFailedChild();
        joinOfACancelledChild();
        joinWithoutChildren();
        joinTakesTheLastChild();
        joinAllTakesEach();
        joinAllFailsAtTheFirstFailure();
        joinAllIsBlockedAgain();
        tryForgivesAFailure();
        tryIsBlockedLikeJoin();
        valuesAreCut();
        failEndsATask();
        childrenOfAnEndedTaskGoOn();
        stopCancelsTheChildren();
        stopReachesOtherWorkers();
        awaitTakesTheNumber();
        keepGivesTheValue();
        keepFreesBeforeItIsDone();
        freedGoesToTheRowWhereItWasBlocked();
        freedOnAStackRuns();
        Due.end();
    }

    private static void workRunsForItsTicks() {
        BobbinPool x = Due.pool("work 2, work 1, add 7, work 3");
        x.submit(0);
        int[] steps = {0, 1, 3, 3, 3, 4};
        int[] values = {0, 0, 0, 7, 7, 7};
        int[] seen = {0, 1, 2, 3, 3, 4};
        for (int i = 0; i < 6; i++) {
            x.tick(1);
            Due.is("workOf(0) behind tick " + (i + 1), x.workOf(0), i + 1);
            Due.is("valueOf(0) behind tick " + (i + 1), x.valueOf(0), values[i]);
            Due.is("stepOf(0) behind tick " + (i + 1), x.stepOf(0), seen[i]);
            Due.is("stateOf(0) behind tick " + (i + 1), x.stateOf(0), i == 5 ? Due.DONE : Due.RUNNING);
        }
        Due.is("steps told", steps.length, 6);
        Due.is("overAt(0)", x.overAt(0), 5);
        Due.is("top(0)", x.top(0), -1);
    }

    private static void doneAtOnceBehindTheLastStep() {
        BobbinPool x = Due.pool("work 1", "add 1");
        x.submit(0);
        x.submit(1);
        Due.is("tick(1)", x.tick(1), 1);
        Due.states("the work ended the turn", x, Due.DONE, Due.READY);
        Due.is("overAt(0)", x.overAt(0), 0);
        x.tick(1);
        Due.is("overAt(1)", x.overAt(1), 1);
        Due.is("told(0, 1), as it went through no work", x.told(0, 1), 1);
        Due.is("told(0, 0)", x.told(0, 0), 1);
    }

    private static void scriptWithoutSteps() {
        BobbinPool x = Due.pool("", "fork 0, join, add 2");
        x.submit(0);
        x.submit(1);
        Due.states("before it goes on", x, Due.READY, Due.READY);
        Due.is("stepOf(0) before it goes on", x.stepOf(0), 0);
        Due.is("tick(1)", x.tick(1), 0);
        Due.states("done", x, Due.DONE, Due.DONE, Due.DONE);
        Due.is("stepOf(0)", x.stepOf(0), 0);
        Due.is("overAt(0)", x.overAt(0), 0);
        Due.is("valueOf(1)", x.valueOf(1), 2);
        Due.is("workOf(0)", x.workOf(0), 0);
    }

    private static void forkGivesAReadyChild() {
        BobbinPool x = Due.pool("work 1", "add 4, fork 0, fork 1, work 1");
        x.submit(1);
        x.tick(1);
        Due.states("forked", x, Due.DONE, Due.READY, Due.READY);
        Due.row("forked", x, 0, 1, 2);
        Due.row("forked", x, -1);
        Due.is("parentOf(1)", x.parentOf(1), 0);
        Due.is("parentOf(2)", x.parentOf(2), 0);
        Due.is("childrenOf(0)", x.childrenOf(0), Due.set(1, 2));
        Due.is("childrenOf(2)", x.childrenOf(2), 0);
        Due.is("valueOf(2), that begins anew", x.valueOf(2), 0);
        Due.is("stepOf(2), that begins anew", x.stepOf(2), 0);
        Due.is("overAt(2)", x.overAt(2), -1);
        x.cancel(1);
        x.tick(1);
        Due.is("valueOf(2) goes through its own script", x.valueOf(2), 4);
        Due.is("childrenOf(2)", x.childrenOf(2), Due.set(3, 4));
        Due.is("parentOf(4)", x.parentOf(4), 2);
    }

    private static void forkWithoutRoomDoesNothing() {
        BobbinPool x = Due.pool("fork 1, add 5, join", "add 2");
        for (int i = 0; i < 23; i++) {
            x.submit(1);
        }
        x.submit(0);
        Due.is("tick(1)", x.tick(1), 0);
        Due.is("tasks()", x.tasks(), 24);
        Due.is("childrenOf(23)", x.childrenOf(23), 0);
        Due.is("valueOf(23)", x.valueOf(23), 5);
        Due.is("stepOf(23)", x.stepOf(23), 3);
        Due.is("stateOf(23)", x.stateOf(23), Due.DONE);

        // The 24th still comes.
        BobbinPool y = Due.pool("fork 1, fork 1, joinall", "add 2");
        for (int i = 0; i < 22; i++) {
            y.submit(1);
        }
        y.submit(0);
        y.tick(1);
        Due.is("tasks()", y.tasks(), 24);
        Due.is("parentOf(23)", y.parentOf(23), 22);
        Due.is("valueOf(22)", y.valueOf(22), 2);
        Due.is("stateOf(22)", y.stateOf(22), Due.DONE);
    }

    private static void joinOfADoneChild() {
        BobbinPool x = Due.pool("fork 1, add 1, join, work 1", "add 30, work 2");
        x.submit(0);
        x.tick(1);
        Due.states("joining", x, Due.JOINING, Due.RUNNING);
        Due.is("stepOf(0) as it is joining", x.stepOf(0), 2);
        Due.is("childrenOf(0) as it is joining", x.childrenOf(0), Due.set(1));
        x.tick(1);
        Due.states("freed", x, Due.READY, Due.DONE);
        Due.is("stepOf(0) as it is freed", x.stepOf(0), 2);
        Due.is("valueOf(0) as it is freed", x.valueOf(0), 1);
        x.tick(1);
        Due.states("joined", x, Due.DONE, Due.DONE);
        Due.is("valueOf(0)", x.valueOf(0), 31);
        Due.is("valueOf(1) stays", x.valueOf(1), 30);
        Due.is("childrenOf(0)", x.childrenOf(0), 0);
        Due.is("parentOf(1), also as it is joined", x.parentOf(1), 0);
    }

    private static void joinOfAFailedChild() {
        BobbinPool x = Due.pool("add 3, fork 1, join, add 100", "add 30, fail");
        x.submit(0);
        x.tick(1);
        Due.states("failed, too", x, Due.FAILED, Due.FAILED);
        Due.is("stepOf(0)", x.stepOf(0), 2);
        Due.is("valueOf(0)", x.valueOf(0), 3);
        Due.is("childrenOf(0), as that is joined", x.childrenOf(0), 0);
        Due.is("overAt(0)", x.overAt(0), 0);
        Due.is("top(0)", x.top(0), -1);
        Due.row("failed, too", x, 0);

        // Failures climb to who joins.
        BobbinPool y = Due.pool("fork 1, join, add 1", "fork 2, join, add 1", "work 1, fail");
        y.submit(0);
        y.tick(1);
        Due.states("a chain", y, Due.JOINING, Due.JOINING, Due.RUNNING);
        y.tick(1);
        Due.states("a chain that failed", y, Due.FAILED, Due.FAILED, Due.FAILED);
    }

    private static void joinOfACancelledChild() {
        BobbinPool x = Due.pool("fork 1, work 2, join, add 1", "add 30, work 20");
        x.setWorkers(2);
        x.submit(0);
        x.tick(2);
        Due.is("valueOf(1)", x.valueOf(1), 30);
        x.cancel(1);
        x.tick(1);
        Due.states("joined", x, Due.DONE, Due.CANCELLED);
        Due.is("valueOf(0), nothing else", x.valueOf(0), 1);
        Due.is("childrenOf(0)", x.childrenOf(0), 0);
    }

    private static void joinWithoutChildren() {
        BobbinPool x = Due.pool("join, joinall, try, stop, add 9");
        x.submit(0);
        Due.is("tick(1)", x.tick(1), 0);
        Due.is("valueOf(0)", x.valueOf(0), 9);
        Due.is("stateOf(0)", x.stateOf(0), Due.DONE);
    }

    private static void joinTakesTheLastChild() {
        BobbinPool x = Due.pool("fork 1, fork 2, work 3, join, work 1, join, work 1", "add 10", "add 20");
        x.setWorkers(2);
        x.submit(0);
        x.tick(4);
        Due.states("all is there", x, Due.RUNNING, Due.DONE, Due.DONE);
        Due.is("valueOf(0), with the last one", x.valueOf(0), 20);
        Due.is("childrenOf(0), with the first one", x.childrenOf(0), Due.set(1));
        x.tick(1);
        Due.is("valueOf(0), with both", x.valueOf(0), 30);
        Due.is("childrenOf(0), with none", x.childrenOf(0), 0);
    }

    private static void joinAllTakesEach() {
        BobbinPool x = Due.pool("fork 1, fork 2, fork 1, joinall, add 1", "add 10", "add 20");
        x.submit(0);
        Due.is("tick(1)", x.tick(1), 0);
        Due.is("valueOf(0)", x.valueOf(0), 41);
        Due.is("childrenOf(0)", x.childrenOf(0), 0);
        Due.is("told(0, 1)", x.told(0, 1), 1);
    }

    private static void joinAllFailsAtTheFirstFailure() {
        BobbinPool x = Due.pool("fork 1, fork 2, fork 1, work 4, joinall, add 1", "add 10", "add 20, fail");
        x.setWorkers(2);
        x.submit(0);
        x.tick(5);
        Due.states("all is there", x, Due.FAILED, Due.DONE, Due.FAILED, Due.DONE);
        Due.is("valueOf(0), with the last one alone", x.valueOf(0), 10);
        Due.is("childrenOf(0), with the first one", x.childrenOf(0), Due.set(1));
        Due.is("stepOf(0)", x.stepOf(0), 4);
    }

    private static void joinAllIsBlockedAgain() {
        BobbinPool x = Due.pool("fork 1, fork 1, joinall", "add 10, work 1");
        x.submit(0);
        x.tick(1);
        Due.states("for the last one", x, Due.READY, Due.READY, Due.DONE);
        Due.row("for the last one", x, 0, 1, 0);
        x.tick(1);
        // It joins 2, waits for 1, which works for this tick and frees it.
        Due.states("for the first one", x, Due.READY, Due.DONE, Due.DONE);
        Due.is("valueOf(0) between them", x.valueOf(0), 10);
        Due.is("childrenOf(0) between them", x.childrenOf(0), Due.set(1));
        Due.is("stepOf(0) between them", x.stepOf(0), 2);
        x.tick(1);
        Due.is("valueOf(0)", x.valueOf(0), 20);
        Due.is("stateOf(0)", x.stateOf(0), Due.DONE);
    }

    private static void tryForgivesAFailure() {
        BobbinPool x = Due.pool("fork 1, try, add 1, fork 2, try, fork 2, fork 1, try, join, add 2",
                "add 30, fail", "add 40");
        x.submit(0);
        x.tick(1);
        Due.states("forgiven", x, Due.DONE, Due.FAILED, Due.DONE, Due.DONE, Due.FAILED);
        Due.is("valueOf(0)", x.valueOf(0), 83);
        Due.is("childrenOf(0)", x.childrenOf(0), 0);
    }

    private static void tryIsBlockedLikeJoin() {
        BobbinPool x = Due.pool("fork 1, try, add 1", "work 2, fail");
        x.submit(0);
        x.tick(1);
        Due.states("joining", x, Due.JOINING, Due.RUNNING);
        x.tick(2);
        Due.states("tried", x, Due.DONE, Due.FAILED);
        Due.is("valueOf(0)", x.valueOf(0), 1);
    }

    private static String ten(String step) {
        return String.join(", ", Collections.nCopies(10, step));
    }

    private static void valuesAreCut() {
        // 999 by a promise, ten times 999 by joins of children, and so on, up to the greatest value.
        BobbinPool x = Due.pool(ten("await 0"),
                "fork 0, fork 0, fork 0, fork 0, fork 0, joinall, keep 1",
                ten("await 1") + ", await 1, keep 2",
                "await 2, keep 3, await 2, add 1, keep 4, add -100, keep 5",
                "fork 3, join");
        x.keep(0, 999);
        for (int job = 1; job <= 4; job++) {
            x.submit(job);
        }
        x.submit(0);
        x.tick(1);
        Due.is("promise(1)", x.promise(1), 49950);
        Due.is("promise(2)", x.promise(2), 549450);
        Due.is("promise(3)", x.promise(3), 549450);
        Due.is("promise(4), cut by a promise and a step", x.promise(4), 999999);
        Due.is("promise(5)", x.promise(5), 999899);

        BobbinPool y = Due.pool(ten("await 0"),
                "fork 0, fork 0, fork 0, fork 0, fork 0, joinall, keep 1",
                ten("await 1") + ", await 1, keep 2",
                "await 2, await 2, work 1, add -1, work 1, add 100",
                "fork 3, fork 3, joinall, keep 5");
        y.keep(0, -999);
        y.submit(1);
        y.submit(2);
        y.submit(4);
        y.tick(1);
        int first = y.tasks() - 1;
        Due.is("valueOf(" + first + "), cut by a promise", y.valueOf(first), -999999);
        y.tick(1);
        Due.is("valueOf(" + first + "), cut by a step", y.valueOf(first), -999999);
        y.tick(5);
        Due.is("valueOf(" + first + "), from the edge", y.valueOf(first), -999899);
        Due.is("promise(5), cut by a join", y.promise(5), -999999);
    }

    private static void failEndsATask() {
        BobbinPool x = Due.pool("add 1, work 2, fail, add 1");
        x.submit(0);
        x.tick(2);
        Due.is("stateOf(0) before it", x.stateOf(0), Due.RUNNING);
        x.tick(1);
        Due.is("stateOf(0)", x.stateOf(0), Due.FAILED);
        Due.is("stepOf(0)", x.stepOf(0), 2);
        Due.is("valueOf(0)", x.valueOf(0), 1);
        Due.is("overAt(0)", x.overAt(0), 2);
        Due.is("top(0)", x.top(0), -1);
        Due.is("told(0, 1), as there was no work in it", x.told(0, 1), 1);
    }

    private static void childrenOfAnEndedTaskGoOn() {
        BobbinPool x = Due.pool("fork 2, fail", "fork 2", "work 2");
        x.submit(0);
        x.submit(1);
        x.tick(1);
        Due.states("of a failed one", x, Due.FAILED, Due.READY, Due.RUNNING);
        Due.is("childrenOf(0)", x.childrenOf(0), Due.set(2));
        x.tick(5);
        Due.states("of both", x, Due.FAILED, Due.DONE, Due.DONE, Due.DONE);
        Due.is("childrenOf(1)", x.childrenOf(1), Due.set(3));
    }

    private static void stopCancelsTheChildren() {
        BobbinPool x = Due.pool("fork 1, fork 2, fork 3, fork 1, work 2, stop, work 1, try, joinall, add 1",
                "work 20", "add 5", "fork 1, await 0");
        x.setWorkers(2);
        x.submit(0);
        x.tick(2);
        // The worker 1 stole the task 1 and is at work with it; 2, 3 and 4 are in the row 0.
        Due.states("forked", x, Due.RUNNING, Due.RUNNING, Due.READY, Due.READY, Due.READY);
        x.tick(1);
        Due.states("stopped", x, Due.RUNNING, Due.CANCELLED, Due.CANCELLED, Due.CANCELLED, Due.CANCELLED);
        Due.row("stopped", x, 0);
        Due.is("stack(1)", x.stack(1), 0);
        Due.is("told(1, 1), as its task went before its turn", x.told(1, 1), 1);
        Due.is("childrenOf(0) before they are joined", x.childrenOf(0), Due.set(1, 2, 3, 4));
        x.tick(1);
        Due.is("valueOf(0)", x.valueOf(0), 1);
        Due.is("childrenOf(0)", x.childrenOf(0), 0);
        Due.is("stateOf(0)", x.stateOf(0), Due.DONE);
    }

    private static void stopReachesOtherWorkers() {
        // 0 forks 1, which forks 2 and joins it; the worker 1 holds both on its stack as 0 stops.
        BobbinPool x = Due.pool(2, Due.HELP, 0, "fork 1, work 3, stop, work 1, join, add 2", "fork 2, join", "work 9");
        x.submit(0);
        x.tick(2);
        Due.states("at work", x, Due.RUNNING, Due.JOINING, Due.RUNNING);
        Due.is("stack(1)", x.stack(1), 2);
        x.tick(2);
        Due.states("stopped", x, Due.RUNNING, Due.CANCELLED, Due.CANCELLED);
        Due.is("stack(1) behind it", x.stack(1), 0);
        Due.row("nothing comes back as it is freed", x, 1);
        Due.is("overAt(1)", x.overAt(1), 3);
        Due.is("overAt(2)", x.overAt(2), 3);
        Due.is("workOf(0)", x.workOf(0), 6);
        x.tick(1);
        Due.is("valueOf(0)", x.valueOf(0), 2);

        // What is over stays as it is.
        BobbinPool y = Due.pool(2, Due.FREE, 0, "fork 1, work 3, stop", "add 1");
        y.submit(0);
        y.tick(4);
        Due.states("nothing to stop", y, Due.DONE, Due.DONE);
    }

    private static void awaitTakesTheNumber() {
        BobbinPool x = Due.pool("add 1, await 4, work 1, await 4");
        x.submit(0);
        x.tick(1);
        Due.is("stateOf(0)", x.stateOf(0), Due.AWAITING);
        Due.is("stepOf(0)", x.stepOf(0), 1);
        x.keep(3, 50);
        Due.is("stateOf(0) behind another promise", x.stateOf(0), Due.AWAITING);
        x.keep(4, -30);
        Due.is("stateOf(0) as it is kept", x.stateOf(0), Due.READY);
        Due.is("stepOf(0) as it is kept", x.stepOf(0), 1);
        Due.is("valueOf(0) as it is kept", x.valueOf(0), 1);
        x.tick(1);
        Due.is("valueOf(0) as it went on", x.valueOf(0), -29);
        x.tick(1);
        Due.is("valueOf(0) of one that is kept already", x.valueOf(0), -59);
        Due.is("stateOf(0)", x.stateOf(0), Due.DONE);
    }

    private static void keepGivesTheValue() {
        BobbinPool x = Due.pool("add 12, keep 2, add 1, keep 2, keep 3", "keep 5");
        x.keep(5, 8);
        x.submit(0);
        x.submit(1);
        x.tick(1);
        Due.is("promise(2), kept once", x.promise(2), 12);
        Due.is("promise(3)", x.promise(3), 13);
        Due.is("promise(5), kept before", x.promise(5), 8);
        Due.is("keep(2, 0)", x.keep(2, 0) ? 1 : 0, 0);
        Due.states("both", x, Due.DONE, Due.DONE);
    }

    private static void keepFreesBeforeItIsDone() {
        // The parent waits for 1, the tasks 2 and 3 for its promise: they are freed first, by their numbers.
        BobbinPool x = Due.pool("fork 1, join, work 1", "work 1, add 6, keep 0", "await 0, work 1");
        x.submit(0);
        x.tick(1);
        x.submit(2);
        x.submit(2);
        x.cancel(1);
        Due.states("without it", x, Due.READY, Due.CANCELLED, Due.READY, Due.READY);

        BobbinPool y = Due.pool("fork 1, join, work 1", "await 1, add 6, keep 0", "await 0, work 1", "keep 1, work 1");
        y.submit(0);
        y.submit(2);
        y.submit(2);
        y.tick(1);
        Due.states("all are blocked", y, Due.JOINING, Due.AWAITING, Due.AWAITING, Due.AWAITING);
        y.submit(3);
        y.tick(1);
        // 4 keeps and works, so that 3, the child, is ready.
        Due.row("the child is freed", y, 0, 3);
        y.setWorkers(2);
        y.tick(1);
        // The child keeps, freeing 1 and 2, and is done, freeing 0, which is the last one of the row and works;
        // the worker 1 steals the first one.
        Due.is("ran(0, 1)", y.ran(0, 1), 0);
        Due.is("top(1)", y.top(1), 1);
        Due.row("the rest", y, 0, 2);
        Due.is("valueOf(0)", y.valueOf(0), 6);
    }

    private static void freedGoesToTheRowWhereItWasBlocked() {
        BobbinPool x = Due.pool(3, Due.FREE, 2, "work 3, keep 0, work 5", "await 0, work 1", "work 9");
        x.submit(0);
        x.submit(1);
        x.tick(3);
        Due.states("blocked on the worker 1", x, Due.RUNNING, Due.AWAITING);
        Due.is("top(1)", x.top(1), -1);
        x.tick(1);
        // The worker 1 comes behind the worker 0 and goes on with it in the same tick.
        Due.is("ran(1, 1)", x.ran(1, 1), 1);
        Due.states("freed", x, Due.RUNNING, Due.DONE);

        // The worker 1 is at work with another one, and with theft 2 nobody else takes it.
        BobbinPool y = Due.pool(3, Due.FREE, 2, "work 3, keep 0, work 5", "await 0, work 1", "work 9");
        y.submit(0);
        y.submit(1);
        y.submit(2);
        y.tick(4);
        Due.states("freed", y, Due.RUNNING, Due.READY, Due.RUNNING);
        Due.row("freed", y, 0);
        Due.row("freed", y, 1, 1);
        Due.row("freed", y, 2);
        Due.is("top(1)", y.top(1), 2);
        y.tick(5);
        Due.states("gone through", y, Due.DONE, Due.READY, Due.DONE);
        y.tick(1);
        Due.is("ran(1, 1)", y.ran(1, 1), 1);
    }

    private static void freedOnAStackRuns() {
        BobbinPool x = Due.pool(2, Due.HOLD, 2, "work 2, keep 0, work 5", "await 0, work 1", "work 1");
        x.submit(0);
        x.submit(1);
        x.submit(2);
        x.tick(1);
        Due.is("stateOf(1)", x.stateOf(1), Due.AWAITING);
        Due.is("top(1)", x.top(1), 1);
        Due.row("held", x, -1, 2);
        x.tick(1);
        Due.is("told(1, 1)", x.told(1, 1), 2);
        x.tick(1);
        Due.is("stateOf(1) as it went on", x.stateOf(1), Due.DONE);
        Due.row("freed on the stack", x, 1);

        // With HELP it is freed under another one, and goes on only as it is the top.
        BobbinPool y = Due.pool(1, Due.HELP, 0, "await 0, work 1", "work 2");
        y.submit(0);
        y.submit(1);
        y.tick(1);
        Due.is("top(0)", y.top(0), 1);
        y.keep(0, 5);
        Due.states("freed under another one", y, Due.RUNNING, Due.RUNNING);
        Due.is("stack(0)", y.stack(0), 2);
        y.tick(1);
        Due.states("the other one first", y, Due.RUNNING, Due.DONE);
        Due.is("ran(0, 1)", y.ran(0, 1), 1);
        y.tick(1);
        Due.states("then it", y, Due.DONE, Due.DONE);
        Due.is("valueOf(0)", y.valueOf(0), 5);
    }
}
