import java.util.ArrayList;
import java.util.Collections;
import java.util.List;

/** Term 2 and promises 10 to 19 at their edges: each sentence that names one has a test of its own. */
public final class TaskEdgesTest {
    /** The tasks 0 to 2 of an extreme pool are used up to keep the promise 3 with the greatest or smallest value. */
    private static final int NEXT = 3;
    private static final int GREATEST = 999999;
    private static final String[] ENDS =
            {"work 1", "fork 1", "join", "joinall", "try", "add 1", "stop", "await 0", "keep 1"};

    public static void main(String[] args) {
        valueUpToTheEdge();
        valueCutByAdd();
        valueCutByAwait();
        valueCutByJoin();
        valueCutByEachOfJoinAll();
        valueCutByTry();
        keptWithTheSmallestValue();
        doneBehindAnyLastStep();
        failedAtItsStep();
        emptyScriptIsDoneAsItGoesOn();
        emptyScriptOfAChild();
        forkUpToTheTwentyFourth();
        forkWithoutRoomGoesOn();
        joinWithoutRoomJoinsTheOneBefore();
        twelveChildren();
        joinAllOfAll();
        joinAllStopsAtAFailedOne();
        joinAllPassesCancelledOnes();
        tryPassesAFailedOneAlone();
        joinIsBlockedByEachThatIsNotOver();
        freedGoesOnWithTheSameStep();
        freedByAnyEndOfTheChild();
        childrenOfAnEndedOneGoOn();
        stopOfNoneAndOfAll();
        clockFromZero();
        clockOfAllCalls();
        tasksFromZeroToTwentyFour();
        lastTaskAsked();
        stepsUpToTwelve();
        parentsStay();
        childrenUpToTheLastBit();
        workOfAChainOfAll();
        workOfEndedOnes();
        overAtFromZero();
        promiseFromTheSmallestValue();
        Due.end();
    }

    private static String times(int count, String step) {
        return String.join(", ", Collections.nCopies(count, step));
    }

    /** 10 times 10 times 10 times 999, and once 999, is 999999; promise 3 is kept with that, or with minus that. */
    private static BobbinPool extreme(int sign, String... scripts) {
        List<String> all = new ArrayList<>(List.of(times(10, "await 0") + ", keep 1", times(10, "await 1") + ", keep 2",
                times(10, "await 2") + ", await 0, keep 3"));
        all.addAll(List.of(scripts));
        BobbinPool x = Due.pool(all.toArray(new String[0]));
        x.keep(0, 999 * sign);
        for (int job = 0; job < all.size(); job++) {
            x.submit(job);
        }
        x.tick(1);
        return x;
    }

    private static void extremeIs(String script, long want, String... more) {
        String[] scripts = new String[more.length + 1];
        scripts[0] = script;
        System.arraycopy(more, 0, scripts, 1, more.length);
        Due.is(script, extreme(1, scripts).valueOf(NEXT), want);
        for (int i = 0; i < scripts.length; i++) {
            scripts[i] = scripts[i].replace("add -", "add +").replace("add ", "add -").replace("-+", "");
        }
        Due.is(scripts[0] + " below", extreme(-1, scripts).valueOf(NEXT), -want);
    }

    // ---- term 2

    private static void valueUpToTheEdge() {
        Due.is("promise(3), just not cut", extreme(1).promise(3), GREATEST);
        Due.is("promise(3), just not cut", extreme(-1).promise(3), -GREATEST);
        extremeIs("await 3", GREATEST);
        extremeIs("await 3, add 0", GREATEST);
        extremeIs("await 3, add -1", GREATEST - 1);
        extremeIs("await 3, add -1, add 1", GREATEST);
    }

    private static void valueCutByAdd() {
        extremeIs("await 3, add 1", GREATEST);
        extremeIs("await 3, add 100", GREATEST);
        extremeIs("await 3, add -1, add 2", GREATEST);
        extremeIs("await 3, add 100, add -1", GREATEST - 1);
        extremeIs("await 3, add 100, add -100", GREATEST - 100);
    }

    private static void valueCutByAwait() {
        extremeIs("await 3, await 3", GREATEST);
        extremeIs("await 3, await 3, add -3", GREATEST - 3);
        extremeIs("add 1, await 3", GREATEST);
        extremeIs("add -1, await 3", GREATEST - 1);
    }

    private static void valueCutByJoin() {
        extremeIs("await 3, fork 4, join", GREATEST, "add 1");
        extremeIs("await 3, fork 4, join", GREATEST - 1, "add -1");
        extremeIs("await 3, fork 4, join, add -1", GREATEST - 1, "await 3");
        extremeIs("fork 4, join", GREATEST, "await 3");
    }

    private static void valueCutByEachOfJoinAll() {
        // The last child comes first: its 100 is cut off before the first one's is taken away.
        extremeIs("await 3, fork 4, fork 5, joinall", GREATEST - 1, "add -1", "add 100");
        extremeIs("await 3, fork 5, fork 4, joinall", GREATEST, "add -1", "add 100");
        extremeIs("fork 4, fork 4, fork 4, joinall, add -7", GREATEST - 7, "await 3");
    }

    private static void valueCutByTry() {
        extremeIs("await 3, fork 4, try", GREATEST, "add 1");
        extremeIs("await 3, fork 4, try, add -1", GREATEST - 1, "await 3");
        extremeIs("await 3, fork 4, try", GREATEST, "add -1, fail");
    }

    private static void keptWithTheSmallestValue() {
        BobbinPool x = extreme(-1, "await 3, keep 4", "await 4, add 1, keep 3, keep 4");
        Due.is("promise(4)", x.promise(4), -GREATEST);
        Due.is("keep(4, 0), as it is kept", x.keep(4, 0) ? 1 : 0, 0);
        Due.is("stateOf(3)", x.stateOf(NEXT), Due.DONE);
        Due.is("valueOf(4), as it is kept", x.valueOf(NEXT + 1), -GREATEST + 1);
        Due.is("promise(4), kept once", x.promise(4), -GREATEST);
    }

    private static void doneBehindAnyLastStep() {
        for (String step : ENDS) {
            for (String before : new String[] {"", "add 1, "}) {
                BobbinPool x = Due.pool(before + step, "work 9");
                x.keep(0, 5);
                x.submit(0);
                x.tick(1);
                Due.is("stateOf(0) behind " + before + step, x.stateOf(0), Due.DONE);
                Due.is("stepOf(0) behind " + before + step, x.stepOf(0), before.isEmpty() ? 1 : 2);
                Due.is("overAt(0) behind " + before + step, x.overAt(0), 0);
                Due.is("top(0) behind " + before + step, x.top(0), step.equals("fork 1") ? 1 : -1);
            }
        }
        BobbinPool x = Due.pool("work 20");
        x.submit(0);
        x.tick(19);
        Due.is("stateOf(0) behind 19 of 20 ticks", x.stateOf(0), Due.RUNNING);
        Due.is("stepOf(0) behind 19 of 20 ticks", x.stepOf(0), 0);
        x.tick(1);
        Due.is("stateOf(0) behind 20 of 20 ticks", x.stateOf(0), Due.DONE);
    }

    private static void failedAtItsStep() {
        for (int before = 0; before <= 11; before++) {
            BobbinPool x = Due.pool(before == 0 ? "fail" : times(before, "add 2") + ", fail");
            x.submit(0);
            x.tick(1);
            Due.is("stateOf(0)", x.stateOf(0), Due.FAILED);
            Due.is("stepOf(0) behind " + before, x.stepOf(0), before);
            Due.is("valueOf(0) behind " + before, x.valueOf(0), 2 * before);
        }
    }

    private static void emptyScriptIsDoneAsItGoesOn() {
        BobbinPool x = Due.pool(2, Due.FREE, 0, "", "work 2");
        x.submit(1);
        x.submit(1);
        x.submit(0);
        x.tick(2);
        Due.is("stateOf(2), as no worker came to it", x.stateOf(2), Due.READY);
        x.tick(1);
        Due.is("stateOf(2), as one came to it", x.stateOf(2), Due.DONE);
        Due.is("overAt(2)", x.overAt(2), 2);
        Due.is("stepOf(2)", x.stepOf(2), 0);
        Due.is("ran(0, 1)", x.ran(0, 1), -1);
    }

    private static void emptyScriptOfAChild() {
        // A stolen one goes on a tick later.
        BobbinPool x = Due.pool(2, Due.FREE, 0, "fork 1, work 3, join, add 4", "");
        x.submit(0);
        x.tick(1);
        Due.is("stateOf(1) as it is stolen", x.stateOf(1), Due.RUNNING);
        x.tick(1);
        Due.is("stateOf(1) a tick later", x.stateOf(1), Due.DONE);
        Due.is("overAt(1)", x.overAt(1), 1);
        x.tick(2);
        Due.is("valueOf(0)", x.valueOf(0), 4);
        Due.is("overAt(0)", x.overAt(0), 3);
    }

    private static BobbinPool behind(int tasks, String script) {
        BobbinPool x = Due.pool(script, "add 2");
        for (int i = 0; i < tasks; i++) {
            x.submit(1);
        }
        x.submit(0);
        x.tick(1);
        return x;
    }

    private static void forkUpToTheTwentyFourth() {
        BobbinPool x = behind(22, "fork 1, add 5, work 1");
        Due.is("tasks() with the 24th", x.tasks(), 24);
        Due.is("parentOf(23)", x.parentOf(23), 22);
        Due.is("childrenOf(22)", x.childrenOf(22), 1 << 23);
        Due.row("the 24th", x, 0, 23);
        x.tick(1);
        Due.is("valueOf(23)", x.valueOf(23), 2);
    }

    private static void forkWithoutRoomGoesOn() {
        BobbinPool x = behind(23, "add 3, fork 1, add 2, work 1, add 6");
        Due.is("tasks() without a 25th", x.tasks(), 24);
        Due.is("childrenOf(23)", x.childrenOf(23), 0);
        Due.is("valueOf(23), as it goes on", x.valueOf(23), 5);
        Due.is("stepOf(23), as it goes on", x.stepOf(23), 4);
        Due.row("without a 25th", x, 0);
        Due.row("without a 25th", x, -1);
        x.tick(1);
        Due.is("valueOf(23)", x.valueOf(23), 11);
        Due.is("stateOf(23)", x.stateOf(23), Due.DONE);
    }

    private static void joinWithoutRoomJoinsTheOneBefore() {
        BobbinPool x = behind(22, "fork 1, fork 0, fork 1, join, join, add 1");
        Due.is("stateOf(22)", x.stateOf(22), Due.DONE);
        Due.is("valueOf(22), of the one that found room", x.valueOf(22), 3);
        Due.is("childrenOf(22)", x.childrenOf(22), 0);
    }

    private static void twelveChildren() {
        BobbinPool x = Due.pool(1, Due.FREE, 2, times(12, "fork 1"), "work 1");
        x.submit(0);
        x.tick(1);
        Due.is("tasks()", x.tasks(), 13);
        Due.is("childrenOf(0), of one that is done", x.childrenOf(0), 8190);
        Due.is("row(0)", x.row(0), 11);
        Due.is("ran(0, 1), the last one first", x.ran(0, 1), 12);
        x.tick(11);
        Due.is("ran(0, 1), the first one last", x.ran(0, 1), 1);
        Due.is("childrenOf(0), not joined", x.childrenOf(0), 8190);
    }

    private static void joinAllOfAll() {
        BobbinPool x = Due.pool(1, Due.FREE, 2, times(11, "fork 1") + ", joinall", "add 2");
        x.submit(0);
        Due.is("tick(1)", x.tick(1), 0);
        Due.is("valueOf(0) with eleven", x.valueOf(0), 22);
        Due.is("childrenOf(0)", x.childrenOf(0), 0);
        BobbinPool none = Due.pool("joinall, add 1");
        none.submit(0);
        none.tick(1);
        Due.is("valueOf(0) with none", none.valueOf(0), 1);
        BobbinPool one = Due.pool("fork 1, joinall, add 1", "add 2");
        one.submit(0);
        one.tick(1);
        Due.is("valueOf(0) with one", one.valueOf(0), 3);
    }

    /** The children by their codes: d adds 2 and is done, f adds 4 and fails, c adds 8 and is cancelled. */
    private static BobbinPool joinedBy(String step, String children) {
        StringBuilder script = new StringBuilder();
        for (char child : children.toCharArray()) {
            script.append("fork ").append("?dfc".indexOf(child)).append(", ");
        }
        BobbinPool x = Due.pool(script + "await 0, " + step + ", add 1", "add 2", "add 4, fail", "add 8, await 1");
        x.submit(0);
        x.tick(1);
        for (int task = 1; task < x.tasks(); task++) {
            if (x.stateOf(task) == Due.AWAITING) {
                x.cancel(task);
            }
        }
        x.keep(0, 0);
        x.tick(1);
        return x;
    }

    private static void joins(String step, String children, int state, int value, int left) {
        BobbinPool x = joinedBy(step, children);
        Due.is("stateOf(0) by " + step + " of " + children, x.stateOf(0), state);
        Due.is("valueOf(0) by " + step + " of " + children, x.valueOf(0), value);
        Due.is("childrenOf(0) by " + step + " of " + children, x.childrenOf(0), left);
        int steps = children.length() + step.split(",").length + 2;
        Due.is("stepOf(0) by " + step + " of " + children, x.stepOf(0), state == Due.DONE ? steps : steps - 2);
    }

    private static void joinAllStopsAtAFailedOne() {
        joins("joinall", "dfd", Due.FAILED, 2, Due.set(1));
        joins("joinall", "fdd", Due.FAILED, 4, 0);
        joins("joinall", "ddf", Due.FAILED, 0, Due.set(1, 2));
        joins("joinall", "f", Due.FAILED, 0, 0);
        joins("join", "f", Due.FAILED, 0, 0);
        joins("join", "df", Due.FAILED, 0, Due.set(1));
        joins("join", "fd", Due.DONE, 3, Due.set(1));
    }

    private static void joinAllPassesCancelledOnes() {
        joins("joinall", "c", Due.DONE, 1, 0);
        joins("joinall", "cdc", Due.DONE, 3, 0);
        joins("joinall", "ccc", Due.DONE, 1, 0);
        joins("joinall", "fc", Due.FAILED, 0, 0);
        joins("join", "dc", Due.DONE, 1, Due.set(1));
        joins("join, join", "dc", Due.DONE, 3, 0);
    }

    private static void tryPassesAFailedOneAlone() {
        joins("try", "f", Due.DONE, 1, 0);
        joins("try", "df", Due.DONE, 1, Due.set(1));
        joins("try", "fd", Due.DONE, 3, Due.set(1));
        joins("try", "fc", Due.DONE, 1, Due.set(1));
        joins("try", "", Due.DONE, 1, 0);
    }

    private static void joinIsBlockedByEachThatIsNotOver() {
        for (String step : new String[] {"join", "joinall", "try"}) {
            // The last child is ready, running, joining, awaiting.
            String[] children = {"work 9", "work 9", "fork 3, join", "await 0"};
            int[] states = {Due.READY, Due.RUNNING, Due.JOINING, Due.AWAITING};
            for (int i = 0; i < 4; i++) {
                BobbinPool x = Due.pool(1, i == 0 ? Due.HOLD : Due.FREE, 0, "add 1, fork 1, fork 2, " + step, "add 5",
                        children[i], "work 9");
                x.submit(0);
                x.tick(1);
                String what = step + " of one in the state " + states[i];
                Due.is(what + ": stateOf(2)", x.stateOf(2), states[i]);
                Due.is(what + ": stateOf(0)", x.stateOf(0), Due.JOINING);
                Due.is(what + ": stepOf(0)", x.stepOf(0), 3);
                Due.is(what + ": valueOf(0)", x.valueOf(0), 1);
                Due.is(what + ": childrenOf(0), as none is joined", x.childrenOf(0), Due.set(1, 2));
            }
        }
    }

    private static void freedGoesOnWithTheSameStep() {
        BobbinPool x = Due.pool("add 1, await 0, add 10, fork 1, add 20, join, add 40", "await 1, add 80");
        x.submit(0);
        x.tick(1);
        Due.is("stepOf(0)", x.stepOf(0), 1);
        x.keep(0, 0);
        Due.is("stepOf(0) as it is freed", x.stepOf(0), 1);
        x.tick(1);
        Due.is("valueOf(0), once each", x.valueOf(0), 31);
        Due.is("stepOf(0)", x.stepOf(0), 5);
        x.keep(1, 0);
        x.tick(1);
        Due.is("valueOf(0), once each", x.valueOf(0), 151);
        Due.is("stepOf(0)", x.stepOf(0), 7);
    }

    private static void freedByAnyEndOfTheChild() {
        String[] ends = {"await 0, add 2", "await 0, fail"};
        for (String step : new String[] {"join", "joinall", "try"}) {
            for (int way = 0; way <= 2; way++) {
                for (int end = 0; end <= 2; end++) {
                    // The worker 1 has the child, so that it ends in a turn of its own, or by a call.
                    BobbinPool x = Due.pool(2, way, 0, "fork 1, work 4, " + step + ", add 1", ends[Math.min(end, 1)]);
                    x.submit(0);
                    x.tick(5);
                    Due.is("stateOf(0)", x.stateOf(0), Due.JOINING);
                    Due.is("stateOf(1)", x.stateOf(1), Due.AWAITING);
                    if (end == 2) {
                        x.cancel(1);
                    } else {
                        x.keep(0, 0);
                        x.tick(1);
                    }
                    String what = step + " with the way " + way + " and the end " + end;
                    boolean fails = end == 1 && !step.equals("try");
                    x.tick(2);
                    Due.is(what + ": stateOf(0)", x.stateOf(0), fails ? Due.FAILED : Due.DONE);
                    Due.is(what + ": valueOf(0)", x.valueOf(0), fails ? 0 : end == 0 ? 3 : 1);
                    Due.is(what + ": overAt(0)", x.overAt(0), end == 2 ? 5 : 6);
                }
            }
        }
    }

    private static void childrenOfAnEndedOneGoOn() {
        // 0 ends at or behind its last step; its child 1 is ready or awaits, 2 is what it joins.
        String[] ends = {"await 0", "await 0, fail", "await 0, join", "await 0, joinall"};
        int[] states = {Due.DONE, Due.FAILED, Due.FAILED, Due.FAILED};
        for (int i = 0; i < ends.length; i++) {
            BobbinPool x = Due.pool("fork 1, fork 2, " + ends[i], "add 7, await 1, add 1", "fail");
            x.submit(0);
            x.tick(1);
            x.keep(0, 0);
            x.tick(1);
            Due.states(ends[i], x, states[i], Due.AWAITING, Due.FAILED);
            Due.is("childrenOf(0) behind " + ends[i], x.childrenOf(0) & 2, 2);
            x.keep(1, 0);
            Due.is("tick(1) behind " + ends[i], x.tick(1), 0);
            Due.is("valueOf(1) behind " + ends[i], x.valueOf(1), 8);
            Due.is("stateOf(0) behind " + ends[i], x.stateOf(0), states[i]);
            Due.is("overAt(0) behind " + ends[i], x.overAt(0), 1);
        }
    }

    private static void stopOfNoneAndOfAll() {
        BobbinPool none = Due.pool("stop, add 1");
        none.submit(0);
        none.tick(1);
        Due.is("valueOf(0) of one without children", none.valueOf(0), 1);
        BobbinPool x = Due.pool(1, Due.FREE, 2, times(10, "fork 1") + ", stop, joinall", "add 1");
        x.submit(0);
        Due.is("tick(1)", x.tick(1), 0);
        Due.is("valueOf(0), as all are cancelled", x.valueOf(0), 0);
        for (int task = 1; task <= 10; task++) {
            Due.is("stateOf(" + task + ")", x.stateOf(task), Due.CANCELLED);
            Due.is("overAt(" + task + ")", x.overAt(task), 0);
        }
        // What is over already stays as it is, and what it has is not reached.
        BobbinPool y = Due.pool(1, Due.FREE, 0, "fork 1, fork 2, fork 3, await 0, stop, add 1", "add 1", "fail",
                "fork 4", "await 1");
        y.submit(0);
        y.tick(1);
        y.keep(0, 0);
        y.tick(1);
        Due.states("stopped", y, Due.DONE, Due.DONE, Due.FAILED, Due.DONE, Due.AWAITING);
        Due.is("childrenOf(0)", y.childrenOf(0), Due.set(1, 2, 3));
    }

    // ---- promises 10 and 11

    private static void clockFromZero() {
        BobbinPool x = Due.pool("work 1");
        Due.is("clock()", x.clock(), 0);
        x.submit(0);
        x.overIn(0, 60);
        x.valueIn(0, 60);
        x.haltsIn(60);
        x.alone(0, 1, 0);
        Due.refuses("tick(0)", x, Due.ARGUMENT, () -> x.tick(0));
        Due.refuses("tick(41)", x, Due.ARGUMENT, () -> x.tick(41));
        Due.is("clock() as no tick went by", x.clock(), 0);
        x.tick(1);
        Due.is("clock()", x.clock(), 1);
        x.tick(40);
        Due.is("clock()", x.clock(), 41);
    }

    private static void clockOfAllCalls() {
        BobbinPool x = new BobbinPool();
        for (int i = 0; i < 500; i++) {
            x.tick(40);
        }
        Due.is("clock()", x.clock(), 20000);
        Due.is("told(0, 1)", x.told(0, 1), 20000);
        Due.is("ran(0, 20)", x.ran(0, 20), -1);
        Due.isReal("load()", x.load(), 0.0);
    }

    private static void tasksFromZeroToTwentyFour() {
        BobbinPool x = Due.pool("work 1");
        for (int count = 0; count < 24; count++) {
            Due.is("tasks()", x.tasks(), count);
            x.submit(0);
        }
        Due.is("tasks()", x.tasks(), 24);
        x.cancel(5);
        x.tick(40);
        Due.is("tasks() as all are over", x.tasks(), 24);
        Due.refuses("submit(0)", x, Due.STATE, () -> x.submit(0));
        Due.is("tasks()", x.tasks(), 24);
    }

    // ---- promises 12 to 18

    private static void lastTaskAsked() {
        for (int count : new int[] {0, 1, 24}) {
            BobbinPool x = Due.pool("work 1");
            for (int i = 0; i < count; i++) {
                x.submit(0);
            }
            if (count > 0) {
                int last = count - 1;
                Due.is("stateOf(" + last + ")", x.stateOf(last), Due.READY);
                Due.is("valueOf(" + last + ")", x.valueOf(last), 0);
                Due.is("stepOf(" + last + ")", x.stepOf(last), 0);
                Due.is("parentOf(" + last + ")", x.parentOf(last), -1);
                Due.is("childrenOf(" + last + ")", x.childrenOf(last), 0);
                Due.is("workOf(" + last + ")", x.workOf(last), 0);
                Due.is("overAt(" + last + ")", x.overAt(last), -1);
            }
            Due.refuses("stateOf(" + count + ")", x, Due.INDEX, () -> x.stateOf(count));
            Due.refuses("valueOf(" + count + ")", x, Due.INDEX, () -> x.valueOf(count));
            Due.refuses("stepOf(" + count + ")", x, Due.INDEX, () -> x.stepOf(count));
            Due.refuses("parentOf(" + count + ")", x, Due.INDEX, () -> x.parentOf(count));
            Due.refuses("childrenOf(" + count + ")", x, Due.INDEX, () -> x.childrenOf(count));
            Due.refuses("workOf(" + count + ")", x, Due.INDEX, () -> x.workOf(count));
            Due.refuses("overAt(" + count + ")", x, Due.INDEX, () -> x.overAt(count));
        }
    }

    private static void stepsUpToTwelve() {
        BobbinPool x = Due.pool(times(12, "work 1"));
        x.submit(0);
        x.submit(0);
        for (int step = 0; step < 12; step++) {
            Due.is("stepOf(0)", x.stepOf(0), step);
            x.tick(1);
        }
        Due.is("stepOf(0) of a done one", x.stepOf(0), 12);
        x.tick(11);
        Due.is("stepOf(1)", x.stepOf(1), 11);
        x.cancel(1);
        Due.is("stepOf(1) of a cancelled one", x.stepOf(1), 11);
    }

    private static void parentsStay() {
        BobbinPool x = Due.pool("fork 1, join, fork 1, fork 2, try, fail", "add 1", "fail", "fork 1, await 0");
        x.submit(0);
        x.submit(3);
        x.tick(1);
        Due.states("ended", x, Due.FAILED, Due.AWAITING, Due.DONE, Due.DONE, Due.FAILED, Due.DONE);
        x.cancel(1);
        int[] parents = {-1, -1, 0, 0, 0, 1};
        for (int task = 0; task < 6; task++) {
            Due.is("parentOf(" + task + ")", x.parentOf(task), parents[task]);
        }
        Due.is("childrenOf(0), without the joined ones", x.childrenOf(0), Due.set(3));
        Due.is("childrenOf(1), as it is cancelled", x.childrenOf(1), Due.set(5));
    }

    private static void childrenUpToTheLastBit() {
        BobbinPool x = Due.pool("fork 0, await 0");
        x.submit(0);
        x.tick(1);
        for (int task = 0; task < 23; task++) {
            Due.is("childrenOf(" + task + ")", x.childrenOf(task), 2 << task);
            Due.is("parentOf(" + (task + 1) + ")", x.parentOf(task + 1), task);
        }
        Due.is("childrenOf(23)", x.childrenOf(23), 0);
    }

    private static void workOfAChainOfAll() {
        BobbinPool x = Due.pool("fork 0, work 1");
        x.submit(0);
        x.tick(24);
        for (int task = 0; task < 24; task++) {
            Due.is("workOf(" + task + ")", x.workOf(task), 24 - task);
        }
        BobbinPool y = Due.pool("work 20, work 20, work 20, work 20");
        y.submit(0);
        y.submit(0);
        y.tick(40);
        y.tick(39);
        Due.is("workOf(0) before its last tick", y.workOf(0), 79);
        y.tick(2);
        Due.is("workOf(0)", y.workOf(0), 80);
        Due.is("workOf(1), of its own", y.workOf(1), 1);
    }

    private static void workOfEndedOnes() {
        BobbinPool x = Due.pool("fork 1, fork 2, fork 3, await 0, try, try, try", "work 2", "work 3, fail", "work 20");
        x.submit(0);
        x.tick(9);
        // The last child runs first, for all nine ticks.
        Due.is("workOf(0)", x.workOf(0), 9);
        Due.is("workOf(3)", x.workOf(3), 9);
        x.cancel(3);
        x.tick(5);
        Due.is("workOf(0), with what is over", x.workOf(0), 14);
        Due.is("workOf(3) of a cancelled one", x.workOf(3), 9);
        Due.is("workOf(2) of a failed one", x.workOf(2), 3);
        Due.is("workOf(1) of a done one", x.workOf(1), 2);
        x.keep(0, 0);
        x.tick(1);
        Due.is("childrenOf(0), all joined", x.childrenOf(0), 0);
        Due.is("workOf(0), with what is joined", x.workOf(0), 14);
    }

    private static void overAtFromZero() {
        BobbinPool x = Due.pool("work 1", "work 2", "fail", "await 0");
        for (int job = 0; job < 4; job++) {
            x.submit(job);
        }
        x.submit(3);
        x.cancel(4);
        Due.is("overAt(4) before the first tick", x.overAt(4), 0);
        Due.is("overAt(0) before the first tick", x.overAt(0), -1);
        x.tick(1);
        Due.is("overAt(0) in the first tick", x.overAt(0), 0);
        Due.is("overAt(1)", x.overAt(1), -1);
        x.tick(2);
        Due.is("overAt(1)", x.overAt(1), 2);
        x.tick(1);
        Due.is("overAt(2) of a failed one", x.overAt(2), 3);
        Due.is("overAt(3) of a blocked one", x.overAt(3), -1);
        x.cancel(3);
        Due.is("overAt(3) as it is cancelled behind four ticks", x.overAt(3), 4);
        x.tick(40);
        Due.is("overAt(3) stays", x.overAt(3), 4);
        Due.is("overAt(0) stays", x.overAt(0), 0);
    }

    // ---- promise 19

    private static void promiseFromTheSmallestValue() {
        BobbinPool x = extreme(-1);
        Due.is("promise(3) with the smallest value", x.promise(3), -GREATEST);
        Due.is("promise(5) of one not kept", x.promise(5), -GREATEST - 1);
        x.keep(5, -999);
        Due.is("promise(5)", x.promise(5), -999);
        for (int promise : new int[] {Integer.MIN_VALUE, -1, 6, Integer.MAX_VALUE}) {
            Due.refuses("promise(" + promise + ")", x, Due.INDEX, () -> x.promise(promise));
        }
    }
}
