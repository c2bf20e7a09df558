/** Terms 3 and 4: what workers take and steal, the ways, turns, what is idle, and when all is halted (promise 27). */
public final class WorkersTest {
    public static void main(String[] args) {
        ownRowFromItsEnd();
        ownRowBeforeTheCommonOne();
        commonRowFromItsStart();
        stealFromTheNext();
        stealRoundTheCorner();
        stealFromTheFullest();
        stealOfNone();
        stolenEndsTheTurn();
        commonBeforeStealing();
        freeLetsGo();
        holdHoldsOn();
        helpTakesMore();
        helpStealsOnTop();
        turnGoesOnToTheWork();
        taskOfAnotherTurnCancelled();
        haltedWithHold();
        haltedWithFree();
        haltedWithHelp();
        haltedWithTheft();
        notHalted();
        haltsAhead();
        Due.end();
    }

    private static void ownRowFromItsEnd() {
        BobbinPool x = Due.pool("fork 1, fork 1, fork 1", "work 1");
        x.submit(0);
        x.tick(1);
        Due.is("first", x.ran(0, 1), 3);
        x.tick(1);
        Due.is("second", x.ran(0, 1), 2);
        x.tick(1);
        Due.is("third", x.ran(0, 1), 1);
        Due.is("told(0, 2)", x.told(0, 2), 0);
    }

    private static void ownRowBeforeTheCommonOne() {
        BobbinPool x = Due.pool("fork 1", "work 1");
        x.submit(0);
        x.submit(1);
        x.tick(1);
        Due.is("its own first", x.ran(0, 1), 2);
        x.tick(1);
        Due.is("then the common one", x.ran(0, 1), 1);
    }

    private static void commonRowFromItsStart() {
        BobbinPool x = Due.pool(2, Due.FREE, 0, "work 1");
        for (int i = 0; i < 5; i++) {
            x.submit(0);
        }
        x.tick(1);
        Due.is("the worker 0", x.ran(0, 1), 0);
        Due.is("the worker 1", x.ran(1, 1), 1);
        Due.row("left", x, -1, 2, 3, 4);
        x.tick(2);
        Due.is("the worker 0", x.ran(0, 1), 4);
        Due.is("the worker 1", x.ran(1, 1), -1);
    }

    /** Four workers; 0 and 2 have forked into their rows and go on, 1 and 3 take from the common row and end. */
    private static BobbinPool twoRows(int theft, String first, String second) {
        BobbinPool x = Due.pool(4, Due.FREE, 2, first, second, "work 9", "work 1");
        x.submit(0);
        x.submit(3);
        x.submit(1);
        x.submit(3);
        x.tick(1);
        x.setWay(Due.FREE, theft);
        return x;
    }

    private static void stealFromTheNext() {
        BobbinPool x = twoRows(0, "fork 2, fork 2, fork 2, work 9", "fork 2, fork 2, work 9");
        Due.row("before", x, 0, 4, 5, 6);
        Due.row("before", x, 2, 7, 8);
        x.tick(1);
        Due.is("the worker 1 steals from 2, the first one", x.top(1), 7);
        Due.is("the worker 3 steals from 0, the first one", x.top(3), 4);
        Due.row("behind", x, 0, 5, 6);
        Due.row("behind", x, 2, 8);
        Due.is("told(1, 2)", x.told(1, 2), 1);
        Due.is("told(3, 2)", x.told(3, 2), 1);
        Due.is("told(0, 2)", x.told(0, 2), 0);
        Due.is("stateOf(7)", x.stateOf(7), Due.RUNNING);
    }

    private static void stealRoundTheCorner() {
        BobbinPool x = twoRows(0, "fork 2, fork 2, fork 2, work 9", "work 9");
        Due.row("before", x, 0, 4, 5, 6);
        x.tick(1);
        Due.is("the worker 1 steals from 0", x.top(1), 4);
        Due.is("the worker 3 steals from 0", x.top(3), 5);
        Due.row("behind", x, 0, 6);
    }

    private static void stealFromTheFullest() {
        BobbinPool x = twoRows(1, "fork 2, work 9", "fork 2, fork 2, fork 2, work 9");
        Due.row("before", x, 0, 4);
        Due.row("before", x, 2, 5, 6, 7);
        x.tick(1);
        Due.is("the worker 1 steals from 2", x.top(1), 5);
        Due.is("the worker 3 steals from 2, too", x.top(3), 6);

        BobbinPool y = twoRows(1, "fork 2, fork 2, work 9", "fork 2, fork 2, fork 2, work 9");
        y.tick(1);
        Due.is("the worker 1 steals from 2 first", y.top(1), 6);
        Due.is("of two as full the smallest number", y.top(3), 4);

        BobbinPool z = twoRows(1, "work 9", "fork 2, work 9");
        z.tick(1);
        Due.is("the worker 1 steals the one that there is", z.top(1), 4);
        Due.is("the worker 3 has none to steal", z.top(3), -1);
        Due.is("and is idle", z.told(3, 1), 1);
    }

    private static void stealOfNone() {
        BobbinPool x = twoRows(2, "fork 2, fork 2, fork 2, work 9", "fork 2, fork 2, work 9");
        x.tick(3);
        Due.row("nothing is stolen", x, 0, 4, 5, 6);
        Due.row("nothing is stolen", x, 2, 7, 8);
        Due.is("told(1, 1)", x.told(1, 1), 3);
        Due.is("told(1, 2)", x.told(1, 2), 0);
    }

    private static void stolenEndsTheTurn() {
        BobbinPool x = Due.pool(2, Due.FREE, 0, "fork 1, work 5", "add 3, work 1");
        x.submit(0);
        x.tick(1);
        Due.is("top(1)", x.top(1), 1);
        Due.is("stateOf(1)", x.stateOf(1), Due.RUNNING);
        Due.is("valueOf(1), as it did not go on yet", x.valueOf(1), 0);
        Due.is("told(1, 0)", x.told(1, 0), 0);
        Due.is("told(1, 1)", x.told(1, 1), 0);
        Due.is("told(1, 2)", x.told(1, 2), 1);
        Due.is("ran(1, 1)", x.ran(1, 1), -1);
        x.tick(1);
        Due.is("valueOf(1)", x.valueOf(1), 3);
        Due.is("told(1, 0)", x.told(1, 0), 1);
        Due.is("told(1, 1)", x.told(1, 1), 0);

        // Also as it went through steps before.
        BobbinPool y = Due.pool(2, Due.FREE, 0, "fork 1, work 5", "add 3, work 1", "add 1");
        y.submit(0);
        y.submit(2);
        y.tick(1);
        Due.states("a step, then stolen", y, Due.RUNNING, Due.DONE, Due.RUNNING);
        Due.is("told(1, 1)", y.told(1, 1), 0);
        Due.is("told(1, 2)", y.told(1, 2), 1);
    }

    private static void commonBeforeStealing() {
        BobbinPool x = Due.pool(2, Due.FREE, 1, "fork 1, work 5", "work 1");
        x.submit(0);
        x.submit(1);
        x.tick(1);
        Due.is("ran(1, 1)", x.ran(1, 1), 1);
        Due.is("told(1, 2)", x.told(1, 2), 0);
        Due.row("not stolen yet", x, 0, 2);
    }

    private static void freeLetsGo() {
        BobbinPool x = Due.pool("fork 1, join, add 1", "work 2", "work 1");
        x.submit(0);
        x.submit(2);
        x.tick(1);
        Due.is("stack(0), without the blocked one", x.stack(0), 1);
        Due.is("top(0)", x.top(0), 2);
        x.tick(1);
        // Freed at the end of the row, it is taken before the common one.
        Due.row("freed", x, 0, 0);
        x.tick(1);
        Due.is("stateOf(0)", x.stateOf(0), Due.DONE);
        Due.is("ran(0, 1), with the rest of that turn", x.ran(0, 1), 1);
    }

    private static void holdHoldsOn() {
        BobbinPool x = Due.pool(1, Due.HOLD, 0, "fork 1, work 1, join, add 1", "work 2", "work 1");
        x.submit(0);
        x.submit(2);
        x.tick(3);
        Due.states("held", x, Due.JOINING, Due.READY, Due.READY);
        Due.is("stack(0)", x.stack(0), 1);
        Due.is("top(0)", x.top(0), 0);
        Due.is("told(0, 0)", x.told(0, 0), 1);
        Due.is("told(0, 1)", x.told(0, 1), 2);
        x.setWorkers(2);
        x.tick(1);
        Due.is("another worker takes the common one", x.ran(1, 1), 1);
        x.tick(1);
        Due.is("then steals the child", x.top(1), 2);
        x.tick(2);
        Due.states("the child is done behind the turn of the worker 0", x, Due.RUNNING, Due.DONE, Due.DONE);
        Due.is("told(0, 1)", x.told(0, 1), 6);
        x.tick(1);
        Due.states("joined", x, Due.DONE, Due.DONE, Due.DONE);
        Due.is("told(0, 1)", x.told(0, 1), 7);
    }

    private static void helpTakesMore() {
        BobbinPool x = Due.pool(1, Due.HELP, 0, "fork 1, join, add 1", "fork 2, join, add 10", "work 1, add 100",
                "work 1");
        x.submit(0);
        x.submit(3);
        x.tick(1);
        Due.is("stack(0)", x.stack(0), 3);
        Due.is("top(0)", x.top(0), 3);
        Due.states("one above the other", x, Due.JOINING, Due.READY, Due.JOINING, Due.RUNNING);
        x.tick(1);
        // The top ends, so that each one below goes on; then the common one is taken and works.
        Due.states("all in one turn", x, Due.DONE, Due.DONE, Due.DONE, Due.DONE);
        Due.is("valueOf(0)", x.valueOf(0), 111);
        Due.is("ran(0, 1)", x.ran(0, 1), 1);
        Due.is("stack(0)", x.stack(0), 0);
        Due.is("told(0, 0)", x.told(0, 0), 2);

        // With nothing to take it is idle.
        BobbinPool y = Due.pool(1, Due.HELP, 0, "await 0");
        y.submit(0);
        y.tick(2);
        Due.is("told(0, 1)", y.told(0, 1), 2);
        Due.is("top(0)", y.top(0), 0);
    }

    private static void helpStealsOnTop() {
        BobbinPool x = Due.pool(2, Due.HELP, 0, "fork 1, work 5", "work 1", "await 0");
        x.submit(0);
        x.submit(2);
        x.tick(1);
        Due.is("stack(1)", x.stack(1), 2);
        Due.is("top(1)", x.top(1), 2);
        Due.is("told(1, 2)", x.told(1, 2), 1);
        Due.is("told(1, 1)", x.told(1, 1), 0);
        x.tick(1);
        Due.is("ran(1, 1)", x.ran(1, 1), 2);
        Due.is("top(1) then", x.top(1), 1);
        x.tick(1);
        Due.is("told(1, 1) then", x.told(1, 1), 1);
    }

    private static void turnGoesOnToTheWork() {
        BobbinPool x = Due.pool("add 1", "add 2, fail", "await 3", "add 4, work 2, add 5", "add 6");
        for (int job = 0; job <= 4; job++) {
            x.submit(job);
        }
        x.tick(1);
        Due.states("to the first work", x, Due.DONE, Due.FAILED, Due.AWAITING, Due.RUNNING, Due.READY);
        Due.is("valueOf(3)", x.valueOf(3), 4);
        x.tick(1);
        Due.is("valueOf(3) as the work ended", x.valueOf(3), 4);
        Due.is("stepOf(3) as the work ended", x.stepOf(3), 2);
        x.tick(1);
        Due.states("to the end", x, Due.DONE, Due.FAILED, Due.AWAITING, Due.DONE, Due.DONE);
        Due.is("told(0, 1)", x.told(0, 1), 1);
        Due.is("told(0, 0)", x.told(0, 0), 2);
        Due.is("ran(0, 1)", x.ran(0, 1), -1);
    }

    private static void taskOfAnotherTurnCancelled() {
        BobbinPool x = Due.pool(2, Due.FREE, 0, "fork 1, work 2, stop, work 1", "work 9", "work 1");
        x.submit(0);
        x.tick(2);
        Due.is("ran(1, 1)", x.ran(1, 1), 1);
        x.submit(2);
        x.tick(1);
        Due.is("ran(1, 1), as its first one is cancelled", x.ran(1, 1), 2);
        Due.states("cancelled", x, Due.DONE, Due.CANCELLED, Due.DONE);
    }

    private static void haltedWithHold() {
        BobbinPool x = Due.pool(1, Due.HOLD, 0, "fork 1, join", "await 0");
        x.submit(0);
        Due.is("halted() as one could be taken", x.halted(), 0);
        x.tick(1);
        Due.is("halted() with a joining and a ready one", x.halted(), 6);
        x.setWorkers(2);
        Due.is("halted() as one could be stolen", x.halted(), 0);
        x.tick(1);
        Due.is("halted() as the stolen one could go on, if only to be blocked", x.halted(), 0);
        x.tick(1);
        Due.is("halted() with a joining and an awaiting one", x.halted(), 5);
        x.submit(1);
        Due.is("halted() with a ready one, too", x.halted(), 7);
        x.cancel(2);
        x.keep(0, 1);
        Due.is("halted() as one is freed", x.halted(), 0);
        x.tick(1);
        Due.is("halted() as the first one is freed", x.halted(), 0);
        x.tick(1);
        Due.is("halted() as all are over", x.halted(), 0);
        Due.states("over", x, Due.DONE, Due.DONE, Due.CANCELLED);
    }

    private static void haltedWithFree() {
        BobbinPool x = Due.pool("await 0", "add 1");
        x.submit(0);
        x.tick(1);
        Due.is("halted() with an awaiting one", x.halted(), 5);
        x.submit(1);
        Due.is("halted() as one could be taken from the common row", x.halted(), 0);
        x.tick(1);
        Due.is("halted() as that is done", x.halted(), 5);
        x.cancel(0);
        Due.is("halted() as all are over", x.halted(), 0);
    }

    private static void haltedWithHelp() {
        // Each of two waits below what waits for it: 0 joins 1 under 1, which awaits what 0 would keep.
        BobbinPool x = Due.pool(1, Due.HELP, 0, "fork 1, join, keep 0", "await 0");
        x.submit(0);
        x.tick(1);
        Due.states("one above the other", x, Due.JOINING, Due.AWAITING);
        Due.is("halted()", x.halted(), 5);

        // One that is freed under a blocked one is RUNNING, but does not go on.
        BobbinPool y = Due.pool(1, Due.HELP, 0, "await 0, keep 1", "await 1");
        y.submit(0);
        y.submit(1);
        y.tick(1);
        y.keep(0, 3);
        Due.states("freed under a blocked one", y, Due.RUNNING, Due.AWAITING);
        Due.is("halted()", y.halted(), 5);
        y.tick(1);
        Due.states("no change", y, Due.RUNNING, Due.AWAITING);
        Due.is("haltsIn(1)", y.haltsIn(1), 0);
        y.cancel(1);
        Due.is("halted() as that is the top", y.halted(), 0);

        // A joining one alone, under a joining one.
        BobbinPool z = Due.pool(2, Due.HELP, 2, "fork 1, join", "await 0, work 1");
        z.submit(0);
        z.tick(1);
        z.submit(1);
        Due.is("halted() as one could be taken", z.halted(), 0);
    }

    private static void haltedWithTheft() {
        // With theft 2 nobody takes the child from the row of the worker that holds its parent.
        BobbinPool x = Due.pool(3, Due.HOLD, 2, "fork 1, join", "work 1");
        x.submit(0);
        x.tick(1);
        Due.is("halted() with theft 2", x.halted(), 6);
        Due.is("haltsIn(1) with theft 2", x.haltsIn(1), 0);
        x.setWay(Due.HOLD, 1);
        Due.is("halted() with theft 1", x.halted(), 0);
        x.setWay(Due.HOLD, 0);
        Due.is("halted() with theft 0", x.halted(), 0);
    }

    private static void notHalted() {
        BobbinPool x = Due.pool("work 2");
        Due.is("halted() without tasks", x.halted(), 0);
        x.submit(0);
        x.tick(1);
        Due.is("halted() at work", x.halted(), 0);
        x.tick(1);
        Due.is("halted() as all are over", x.halted(), 0);

        // Another worker than the first one can still do something.
        BobbinPool y = Due.pool(2, Due.HOLD, 0, "await 0", "work 5");
        y.submit(0);
        y.submit(1);
        y.tick(1);
        Due.is("halted() with one at work", y.halted(), 0);
        y.tick(4);
        Due.is("halted() with none at work", y.halted(), 5);
    }

    private static void haltsAhead() {
        BobbinPool x = Due.pool(2, Due.HOLD, 0, "await 0", "work 5, await 1");
        x.submit(0);
        x.submit(1);
        Due.is("haltsIn(60)", x.haltsIn(60), 6);
        Due.is("haltsIn(6)", x.haltsIn(6), 6);
        Due.is("haltsIn(5)", x.haltsIn(5), -1);
        x.tick(4);
        Due.is("haltsIn(2)", x.haltsIn(2), 2);
        Due.is("haltsIn(1)", x.haltsIn(1), -1);
        x.tick(2);
        Due.is("haltsIn(1) as it is", x.haltsIn(1), 0);
        Due.is("halted()", x.halted(), 5);
    }
}
