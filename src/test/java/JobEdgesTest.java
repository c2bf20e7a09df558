/** Promises 1 to 3 and term 1 at their edges: each sentence that names one has a test of its own. */
public final class JobEdgesTest {
    private static final int MIN = Integer.MIN_VALUE;
    private static final int MAX = Integer.MAX_VALUE;
    private static final int[] UNLOOKED = {2, 3, 4, 6, 7};

    public static void main(String[] args) {
        newPoolHasOneWorker();
        newPoolHasNoJobs();
        newPoolIsFreeWithTheftZero();
        newPoolKeepsNoPromise();
        newPoolsAreApart();
        jobsFromZeroToSeven();
        ninthJobIsRefused();
        newJobHasNoSteps();
        noSuchJob();
        eachCodeAndNoOther();
        workFromOneToTwenty();
        forkOfAnyJob();
        forkOfNoJob();
        forkOfAJobThatComesLater();
        addFromMinusHundredToHundred();
        awaitOfEachPromise();
        keepOfEachPromise();
        unlookedNumbers();
        unlookedNumbersOfJoiningOnes();
        twelveStepsInEachOfEight();
        thirteenthStepIsRefused();
        noStepWithATaskInAnyState();
        noStepWithAForkedTask();
        stepWithTasksOfOthers();
        wrongStepIsNamedFirst();
        noJobIsNamedFirst();
        Due.end();
    }

    private static void newPoolHasOneWorker() {
        BobbinPool x = new BobbinPool();
        Due.is("workers()", x.workers(), 1);
        Due.is("top(0)", x.top(0), -1);
        Due.refuses("top(1)", x, Due.INDEX, () -> x.top(1));
        Due.is("setWorkers(1)", x.setWorkers(1), 1);
    }

    private static void newPoolHasNoJobs() {
        Twin.refuses("submit(0)", BobbinPool::new, Due.INDEX, x -> x.submit(0));
        Twin.refuses("addStep(0, 2, 0)", BobbinPool::new, Due.INDEX, x -> x.addStep(0, 2, 0));
        Twin.refuses("alone(0, 1, 0)", BobbinPool::new, Due.INDEX, x -> x.alone(0, 1, 0));
        Twin.refuses("stateOf(0)", BobbinPool::new, Due.INDEX, x -> x.stateOf(0));
        Due.is("addJob()", new BobbinPool().addJob(), 0);
    }

    /** Which task the worker 2 steals tells the theft: 0 the task 2, 1 the task 3, 2 none. */
    static int stolen(BobbinPool x) {
        x.submit(0);
        x.submit(1);
        x.setWorkers(3);
        x.tick(1);
        return x.top(2);
    }

    static BobbinPool thievesJobs() {
        return Due.pool("fork 2, work 9", "fork 2, fork 2, work 9", "work 9", "await 0");
    }

    private static void newPoolIsFreeWithTheftZero() {
        Due.is("who is stolen with theft 0", stolen(thievesJobs()), 2);
        BobbinPool one = thievesJobs();
        one.setWay(0, 1);
        Due.is("who is stolen with theft 1", stolen(one), 3);
        BobbinPool two = thievesJobs();
        two.setWay(0, 2);
        Due.is("who is stolen with theft 2", stolen(two), -1);
        BobbinPool x = thievesJobs();
        x.submit(3);
        x.tick(1);
        Due.is("a blocked one goes from the stack", x.stack(0), 0);
        Due.is("setWay(1, 0)", x.setWay(1, 0), 0);
    }

    private static void newPoolKeepsNoPromise() {
        BobbinPool x = new BobbinPool();
        for (int promise = 0; promise <= 5; promise++) {
            Due.is("promise(" + promise + ")", x.promise(promise), -1000000);
            Due.is("keep(" + promise + ", 0)", x.keep(promise, 0) ? 1 : 0, 1);
        }
    }

    private static void newPoolsAreApart() {
        BobbinPool x = Due.pool(5, 2, 2, "await 0, work 1");
        x.submit(0);
        x.keep(0, 3);
        x.tick(1);
        BobbinPool y = new BobbinPool();
        Due.is("addJob() of another pool", y.addJob(), 0);
        Due.is("workers() of another pool", y.workers(), 1);
        Due.is("tasks() of another pool", y.tasks(), 0);
        Due.is("clock() of another pool", y.clock(), 0);
        Due.is("promise(0) of another pool", y.promise(0), -1000000);
        Due.is("setWay(0, 0) of another pool", y.setWay(0, 0), 0);
    }

    private static void jobsFromZeroToSeven() {
        BobbinPool x = new BobbinPool();
        for (int job = 0; job <= 7; job++) {
            int next = job;
            Due.refuses("submit(" + job + ") before it is there", x, Due.INDEX, () -> x.submit(next));
            Due.is("addJob()", x.addJob(), job);
            Due.is("submit(" + job + ")", x.submit(job), job);
        }
    }

    private static BobbinPool emptyJobs(int count) {
        BobbinPool x = new BobbinPool();
        for (int job = 0; job < count; job++) {
            x.addJob();
        }
        return x;
    }

    private static void ninthJobIsRefused() {
        Due.is("addJob() of the eighth", emptyJobs(7).addJob(), 7);
        Twin.refuses("addJob() of the ninth", () -> emptyJobs(8), Due.STATE, BobbinPool::addJob);
        Twin.refuses("submit(8) with eight", () -> emptyJobs(8), Due.INDEX, x -> x.submit(8));
    }

    private static void newJobHasNoSteps() {
        BobbinPool x = Due.pool("work 3");
        Due.is("addJob()", x.addJob(), 1);
        x.submit(1);
        Due.is("tick(1), as it has no steps", x.tick(1), 0);
        Due.is("stepOf(0)", x.stepOf(0), 0);
        Due.is("told(0, 0)", x.told(0, 0), 0);
        Due.is("addJob()", x.addJob(), 2);
        Due.is("addStep(2, 2, 0) is the first", x.addStep(2, 2, 0), 1);
    }

    private static void noSuchJob() {
        for (int count : new int[] {0, 1, 8}) {
            for (int job : new int[] {MIN, -1, count, 8, MAX}) {
                Twin.refuses("addStep(" + job + ", 5, 1) of " + count, () -> emptyJobs(count), Due.INDEX,
                        x -> x.addStep(job, 5, 1));
            }
        }
        Due.is("addStep(7, 5, 1) of 8", emptyJobs(8).addStep(7, 5, 1), 1);
        Due.is("addStep(0, 5, 1) of 8", emptyJobs(8).addStep(0, 5, 1), 1);
    }

    private static void eachCodeAndNoOther() {
        BobbinPool x = emptyJobs(2);
        for (int code = 0; code <= 9; code++) {
            Due.is("addStep(0, " + code + ", 1)", x.addStep(0, code, 1), code + 1);
        }
        for (int code : new int[] {MIN, -1, 10, MAX}) {
            for (int n : new int[] {-1, 0, 1}) {
                Twin.refuses("addStep(0, " + code + ", " + n + ")", () -> emptyJobs(2), Due.ARGUMENT,
                        y -> y.addStep(0, code, n));
            }
        }
    }

    private static void refusesNumbers(int code, int... numbers) {
        for (int n : numbers) {
            Twin.refuses("addStep(0, " + code + ", " + n + ")", () -> emptyJobs(2), Due.ARGUMENT,
                    x -> x.addStep(0, code, n));
        }
    }

    private static void workFromOneToTwenty() {
        for (int n : new int[] {1, 2, 19, 20}) {
            BobbinPool x = Due.pool("work " + n);
            x.submit(0);
            Due.is("overIn(0, 60) of work " + n, x.overIn(0, 60), n);
            x.tick(n);
            Due.is("overAt(0) of work " + n, x.overAt(0), n - 1);
            Due.is("workOf(0) of work " + n, x.workOf(0), n);
        }
        refusesNumbers(0, MIN, -1, 0, 21, MAX);
    }

    private static void forkOfAnyJob() {
        BobbinPool x = Due.pool("add 1", "fork 0, fork 1, fork 7", "", "", "", "", "", "add 8");
        x.submit(1);
        x.setWay(0, 2);
        x.tick(1);
        Due.is("tasks() of one that forks itself again and again", x.tasks(), 24);
        Due.is("valueOf(1), of the job 0", x.valueOf(1), 1);
        Due.is("valueOf(3), of the job 7", x.valueOf(3), 8);
        Due.is("childrenOf(2), of the job itself", x.childrenOf(2) != 0 ? 1 : 0, 1);
    }

    private static void forkOfNoJob() {
        refusesNumbers(1, MIN, -1, 2, 7, 8, MAX);
        Twin.refuses("addStep(0, 1, 8) with eight", () -> emptyJobs(8), Due.ARGUMENT, x -> x.addStep(0, 1, 8));
        Due.is("addStep(0, 1, 7) with eight", emptyJobs(8).addStep(0, 1, 7), 1);
        Due.is("addStep(0, 1, 0) with one", emptyJobs(1).addStep(0, 1, 0), 1);
    }

    private static void forkOfAJobThatComesLater() {
        BobbinPool x = emptyJobs(1);
        Due.refuses("addStep(0, 1, 1) before it is there", x, Due.ARGUMENT, () -> x.addStep(0, 1, 1));
        x.addJob();
        Due.is("addStep(0, 1, 1) as it is there", x.addStep(0, 1, 1), 1);
    }

    private static void addFromMinusHundredToHundred() {
        for (int n : new int[] {-100, -99, 0, 99, 100}) {
            BobbinPool x = emptyJobs(1);
            Due.is("addStep(0, 5, " + n + ")", x.addStep(0, 5, n), 1);
            x.submit(0);
            x.tick(1);
            Due.is("valueOf(0) of add " + n, x.valueOf(0), n);
        }
        refusesNumbers(5, MIN, -101, 101, MAX);
    }

    private static void awaitOfEachPromise() {
        for (int promise = 0; promise <= 5; promise++) {
            BobbinPool x = Due.pool("await " + promise);
            x.submit(0);
            x.tick(1);
            for (int other = 0; other <= 5; other++) {
                if (other != promise) {
                    x.keep(other, 1);
                }
            }
            Due.is("stateOf(0) with all others kept", x.stateOf(0), Due.AWAITING);
            x.keep(promise, 40 + promise);
            x.tick(1);
            Due.is("valueOf(0)", x.valueOf(0), 40 + promise);
        }
        refusesNumbers(8, MIN, -1, 6, MAX);
    }

    private static void keepOfEachPromise() {
        for (int promise = 0; promise <= 5; promise++) {
            BobbinPool x = Due.pool("add 7, keep " + promise);
            x.submit(0);
            x.tick(1);
            for (int other = 0; other <= 5; other++) {
                Due.is("promise(" + other + ") of keep " + promise, x.promise(other), other == promise ? 7 : -1000000);
            }
        }
        refusesNumbers(9, MIN, -1, 6, MAX);
    }

    /** A task with four children, one of each end and one at work, goes through a step with this number. */
    private static BobbinPool unlooked(int code, int n) {
        BobbinPool x = Due.pool("add 5", "add 30, fail", "await 4", "work 9", "");
        x.addStep(4, 5, 2);
        for (int fork = 0; fork < 4; fork++) {
            x.addStep(4, 1, fork);
        }
        x.addStep(4, 8, 5);
        x.addStep(4, code, n);
        x.addStep(4, code, n);
        x.addStep(4, 5, 50);
        x.submit(4);
        x.tick(2);
        x.cancel(3);
        x.keep(5, 0);
        return x;
    }

    private static void unlookedNumbers() {
        for (int code : UNLOOKED) {
            for (int n : new int[] {MIN, -101, -1, 1, 2, 5, 6, 20, 21, 100, 101, MAX}) {
                String what = "the step " + code + " with " + n;
                BobbinPool alone = emptyJobs(1);
                Due.is("addStep(0, " + code + ", " + n + ")", alone.addStep(0, code, n), 1);
                alone.submit(0);
                Due.is("tick(1) with " + what, alone.tick(1), 0);
                Due.is("stateOf(0) with " + what, alone.stateOf(0), code == 6 ? Due.FAILED : Due.DONE);
                Due.is("valueOf(0) with " + what, alone.valueOf(0), 0);
                Due.is("workOf(0) with " + what, alone.workOf(0), 0);
                BobbinPool x = unlooked(code, n);
                BobbinPool y = unlooked(code, 0);
                for (int tick = 0; tick < 12; tick++) {
                    x.tick(1);
                    y.tick(1);
                    Due.is("digest() with " + what + " behind " + tick, x.digest(), y.digest());
                }
            }
        }
    }

    private static void unlookedNumbersOfJoiningOnes() {
        for (int code = 2; code <= 4; code++) {
            for (int n = 0; n <= 5; n++) {
                BobbinPool x = Due.pool("", "work 9, work 9");
                x.addStep(0, 1, 1);
                x.addStep(0, code, n);
                x.submit(0);
                x.tick(1);
                for (int promise = 0; promise <= 5; promise++) {
                    x.keep(promise, 7);
                }
                Due.is("stateOf(0) at the step " + code + ", " + n, x.stateOf(0), Due.JOINING);
                Due.is("row(0) at the step " + code + ", " + n, x.row(0), 0);
            }
        }
    }

    private static void twelveStepsInEachOfEight() {
        BobbinPool x = emptyJobs(8);
        for (int step = 1; step <= 12; step++) {
            for (int job = 0; job <= 7; job++) {
                Due.is("addStep(" + job + ", 5, ..)", x.addStep(job, 5, step * job), step);
            }
        }
        for (int job = 0; job <= 7; job++) {
            x.submit(job);
        }
        x.tick(1);
        for (int job = 0; job <= 7; job++) {
            Due.is("valueOf(" + job + ")", x.valueOf(job), 78 * job);
            Due.is("stepOf(" + job + ")", x.stepOf(job), 12);
        }
    }

    private static BobbinPool steps(int count) {
        BobbinPool x = emptyJobs(1);
        for (int i = 0; i < count; i++) {
            x.addStep(0, 5, 1);
        }
        return x;
    }

    private static void thirteenthStepIsRefused() {
        Due.is("addStep of the twelfth", steps(11).addStep(0, 0, 20), 12);
        for (int code = 0; code <= 9; code++) {
            int right = code == 0 ? 1 : 0;
            int asked = code;
            Twin.refuses("addStep(0, " + code + ", " + right + ") of the thirteenth", () -> steps(12), Due.STATE,
                    x -> x.addStep(0, asked, right));
        }
    }

    private static void noStepWithATaskInAnyState() {
        String[] scripts = {"work 9", "fork 0, join", "await 0", "add 1", "fail"};
        int[] states = {Due.RUNNING, Due.JOINING, Due.AWAITING, Due.DONE, Due.FAILED};
        for (int i = 0; i < scripts.length; i++) {
            String script = scripts[i];
            Twin.Maker maker = () -> {
                BobbinPool x = Due.pool("work 9", script);
                x.submit(1);
                x.tick(1);
                return x;
            };
            Due.is("stateOf(0) of " + script, maker.make().stateOf(0), states[i]);
            Twin.refuses("addStep with a task of " + script, maker, Due.STATE, x -> x.addStep(1, 5, 1));
        }
        Twin.Maker ready = () -> {
            BobbinPool x = steps(0);
            x.submit(0);
            return x;
        };
        Twin.refuses("addStep with a task that is ready", ready, Due.STATE, x -> x.addStep(0, 5, 1));
        Twin.Maker cancelled = () -> {
            BobbinPool x = ready.make();
            x.cancel(0);
            return x;
        };
        Twin.refuses("addStep with a task that is cancelled", cancelled, Due.STATE, x -> x.addStep(0, 5, 1));
    }

    private static void noStepWithAForkedTask() {
        Twin.Maker maker = () -> {
            BobbinPool x = Due.pool("", "fork 0, join, work 1", "");
            x.submit(1);
            x.tick(1);
            return x;
        };
        Due.is("childrenOf(0), as it is joined", maker.make().childrenOf(0), 0);
        Twin.refuses("addStep with a task that was forked", maker, Due.STATE, x -> x.addStep(0, 5, 1));
    }

    private static void stepWithTasksOfOthers() {
        BobbinPool x = Due.pool("work 9", "fork 1", "");
        for (int i = 0; i < 23; i++) {
            x.submit(0);
        }
        Due.is("addStep(1, 5, 1) with tasks of another job", x.addStep(1, 5, 1), 2);
        Due.is("addStep(2, 5, 1) with tasks of another job", x.addStep(2, 5, 1), 1);
        x.submit(2);
        Due.refuses("addStep(2, 5, 1) with the 24th task of it", x, Due.STATE, () -> x.addStep(2, 5, 1));
    }

    private static void wrongStepIsNamedFirst() {
        Twin.Maker both = () -> {
            BobbinPool x = steps(12);
            x.submit(0);
            return x;
        };
        Twin.refuses("addStep(0, 5, 1) with 12 and a task", both, Due.STATE, x -> x.addStep(0, 5, 1));
        int[][] wrong = {{-1, 0}, {10, 0}, {0, 0}, {0, 21}, {1, 1}, {5, -101}, {5, 101}, {8, 6}, {9, -1}};
        for (int[] step : wrong) {
            Twin.refuses("addStep(0, " + step[0] + ", " + step[1] + ") with 12 and a task", both, Due.ARGUMENT,
                    x -> x.addStep(0, step[0], step[1]));
            Twin.refuses("addStep(0, " + step[0] + ", " + step[1] + ") with 12", () -> steps(12), Due.ARGUMENT,
                    x -> x.addStep(0, step[0], step[1]));
        }
    }

    private static void noJobIsNamedFirst() {
        for (int job : new int[] {MIN, -1, 1, MAX}) {
            Twin.refuses("addStep(" + job + ", 10, 0) with 12", () -> steps(12), Due.INDEX,
                    x -> x.addStep(job, 10, 0));
            Twin.refuses("addStep(" + job + ", 0, 0) with 12", () -> steps(12), Due.INDEX,
                    x -> x.addStep(job, 0, 0));
        }
    }
}
