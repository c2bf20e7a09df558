/** Promises 1 to 3: a new object, addJob, addStep. */
public final class JobsTest {
    public static void main(String[] args) {
        aNewPool();
        jobsAreNumbered();
        stepsAreCounted();
        wrongStepsAreRefused();
        edgesOfStepsAreTaken();
        whatIsNotLookedAt();
        twelveStepsAndNoMore();
        noStepsWithATask();
        firstNamedRefusalCounts();
        Due.end();
    }

    private static void aNewPool() {
        BobbinPool x = new BobbinPool();
        Due.is("new: clock()", x.clock(), 0);
        Due.is("new: tasks()", x.tasks(), 0);
        Due.is("new: workers()", x.workers(), 1);
        Due.is("new: halted()", x.halted(), 0);
        Due.isReal("new: load()", x.load(), 0.0);
        Due.row("new", x, -1);
        Due.row("new", x, 0);
        Due.is("new: top(0)", x.top(0), -1);
        Due.is("new: stack(0)", x.stack(0), 0);
        for (int what = 0; what <= 2; what++) {
            Due.is("new: told(0, " + what + ")", x.told(0, what), 0);
        }
        for (int promise = 0; promise < 6; promise++) {
            Due.is("new: promise(" + promise + ")", x.promise(promise), Due.NOT_KEPT);
        }
        Due.is("new: ran(0, 1)", x.ran(0, 1), -2);
        Due.is("new: haltsIn(60)", x.haltsIn(60), -1);
        Due.refuses("new: submit(0)", x, Due.INDEX, () -> x.submit(0));
        Due.refuses("new: alone(0, 1, 0)", x, Due.INDEX, () -> x.alone(0, 1, 0));
        // The way is FREE and the theft 0 at first.
        Due.is("new: setWay(1, 1)", x.setWay(Due.HOLD, 1), Due.FREE);
        Due.is("new: tick(1)", x.tick(1), 0);
    }

    private static void jobsAreNumbered() {
        BobbinPool x = new BobbinPool();
        for (int job = 0; job < 8; job++) {
            Due.is("addJob()", x.addJob(), job);
        }
        Due.refuses("addJob() of a ninth", x, Due.STATE, x::addJob);
        Due.is("addStep(7, 2, 0)", x.addStep(7, 2, 0), 1);
        Due.refuses("addStep(8, 2, 0)", x, Due.INDEX, () -> x.addStep(8, 2, 0));
    }

    private static void stepsAreCounted() {
        BobbinPool x = Due.pool("", "");
        Due.is("addStep(0, 0, 1)", x.addStep(0, 0, 1), 1);
        Due.is("addStep(0, 5, 1)", x.addStep(0, 5, 1), 2);
        Due.is("addStep(1, 5, 1)", x.addStep(1, 5, 1), 1);
        Due.is("addStep(0, 1, 1)", x.addStep(0, 1, 1), 3);
        Due.refuses("addStep(-1, 2, 0)", x, Due.INDEX, () -> x.addStep(-1, 2, 0));
        Due.refuses("addStep(2, 2, 0)", x, Due.INDEX, () -> x.addStep(2, 2, 0));
    }

    private static void wrongStepsAreRefused() {
        BobbinPool x = Due.pool("", "");
        int[][] wrong = {
            {-1, 1}, {10, 1}, {Integer.MIN_VALUE, 1}, {Integer.MAX_VALUE, 1},
            {0, 0}, {0, 21}, {0, -1}, {1, -1}, {1, 2}, {1, 8}, {5, -101}, {5, 101},
            {8, -1}, {8, 6}, {9, -1}, {9, 6}, {9, Integer.MAX_VALUE}, {0, Integer.MIN_VALUE}
        };
        for (int[] step : wrong) {
            Due.refuses("addStep(0, " + step[0] + ", " + step[1] + ")", x, Due.ARGUMENT,
                    () -> x.addStep(0, step[0], step[1]));
        }
        Due.is("addStep(0, 0, 1) behind the refused ones", x.addStep(0, 0, 1), 1);
    }

    private static void edgesOfStepsAreTaken() {
        BobbinPool x = Due.pool("", "");
        int[][] right = {{0, 1}, {0, 20}, {1, 0}, {1, 1}, {5, -100}, {5, 100}, {5, 0}, {8, 0}, {8, 5}, {9, 0}, {9, 5}};
        for (int i = 0; i < right.length; i++) {
            int code = right[i][0];
            int n = right[i][1];
            Due.is("addStep(1, " + code + ", " + n + ")", x.addStep(1, code, n), i + 1);
        }
    }

    private static void whatIsNotLookedAt() {
        BobbinPool x = Due.pool("");
        int count = 0;
        for (int code : new int[] {2, 3, 4, 6, 7}) {
            count++;
            Due.is("addStep(0, " + code + ", 1000)", x.addStep(0, code, 1000), count);
            count++;
            Due.is("addStep(0, " + code + ", -1000)", x.addStep(0, code, -1000), count);
        }
    }

    private static void twelveStepsAndNoMore() {
        BobbinPool x = Due.pool("", "");
        for (int i = 1; i <= 12; i++) {
            Due.is("addStep(0, 5, " + i + ")", x.addStep(0, 5, i), i);
        }
        Due.refuses("addStep of a thirteenth", x, Due.STATE, () -> x.addStep(0, 5, 1));
        Due.is("addStep(1, 5, 1) beside a full one", x.addStep(1, 5, 1), 1);
        x.submit(0);
        Due.is("tick(1)", x.tick(1), 0);
        Due.is("all twelve are gone through, in a sum", x.valueOf(0), 78);
        Due.is("stepOf(0)", x.stepOf(0), 12);
    }

    private static void noStepsWithATask() {
        BobbinPool x = Due.pool("add 1", "fork 0", "add 2");
        x.submit(1);
        Due.refuses("addStep to a job with a ready task", x, Due.STATE, () -> x.addStep(1, 5, 1));
        Due.is("addStep to a job without a task yet", x.addStep(0, 5, 1), 2);
        x.tick(1);
        Due.states("ended", x, Due.DONE, Due.DONE);
        Due.refuses("addStep to a job with a task that is over", x, Due.STATE, () -> x.addStep(1, 5, 1));
        Due.refuses("addStep to a job with a forked task", x, Due.STATE, () -> x.addStep(0, 5, 1));
        Due.is("addStep to a job without a task", x.addStep(2, 5, 1), 2);
        Due.is("the forked one went through both steps", x.valueOf(1), 2);
    }

    private static void firstNamedRefusalCounts() {
        BobbinPool x = Due.pool("add 1");
        x.submit(0);
        Due.refuses("addStep(1, 10, 0)", x, Due.INDEX, () -> x.addStep(1, 10, 0));
        Due.refuses("addStep(0, 10, 0) with a task", x, Due.ARGUMENT, () -> x.addStep(0, 10, 0));
        Due.refuses("addStep(0, 5, 101) with a task", x, Due.ARGUMENT, () -> x.addStep(0, 5, 101));
    }
}
