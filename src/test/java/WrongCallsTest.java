/**
 * Every call with arguments at, next to and far from the edges, on pools of many kinds: it throws what the document
 * names first, or nothing, and as it throws it changes nothing.
 */
public final class WrongCallsTest {
    private static final int MIN = Integer.MIN_VALUE;
    private static final int MAX = Integer.MAX_VALUE;
    private static final String FULL =
            "add 1, add 1, add 1, add 1, add 1, add 1, add 1, add 1, add 1, add 1, add 1, work 1";

    private final String name;
    private final Twin.Maker maker;
    private final int[] steps;
    private final boolean[] used;
    /** Workers from which on none may go; as many as there are, if all others may go. */
    private final int needed;
    private final int way;
    private final boolean stacked;
    private final BobbinPool asked;
    private final Twin twin;

    /** What a kind of pool has: how many steps each job, whether it has a task, the workers needed, the way. */
    private WrongCallsTest(String name, Twin.Maker maker, int[] steps, boolean[] used, int needed, int way,
            boolean stacked) {
        this.name = name;
        this.maker = maker;
        this.steps = steps;
        this.used = used;
        this.needed = needed;
        this.way = way;
        this.stacked = stacked;
        asked = maker.make();
        twin = new Twin(name, maker);
    }

    public static void main(String[] args) {
        boolean[] eightOf = new boolean[8];
        new WrongCallsTest("new", BobbinPool::new, new int[0], new boolean[0], 1, Due.FREE, false).look();
        new WrongCallsTest("one job", () -> Due.pool(5, Due.HELP, 1, ""), new int[1], new boolean[1], 1, Due.HELP,
                false).look();
        new WrongCallsTest("full book", () -> Due.pool(FULL, FULL, FULL, FULL, FULL, FULL, FULL, FULL),
                new int[] {12, 12, 12, 12, 12, 12, 12, 12}, eightOf, 1, Due.FREE, false).look();
        new WrongCallsTest("book of eight", () -> Due.pool("", "", "", "", "", "", "", "add 3"),
                new int[] {0, 0, 0, 0, 0, 0, 0, 1}, eightOf, 1, Due.FREE, false).look();
        new WrongCallsTest("24 tasks asked for", () -> submitted(24, Due.pool(3, Due.HOLD, 2, "work 1", FULL)),
                new int[] {1, 12}, new boolean[] {true, false}, 1, Due.HOLD, false).look();
        new WrongCallsTest("24 tasks, all over", WrongCallsTest::allOver, new int[] {2, 1}, new boolean[] {true, true},
                1, Due.FREE, false).look();
        new WrongCallsTest("24 tasks in a row", WrongCallsTest::fullRow, new int[] {1}, new boolean[] {true}, 1,
                Due.FREE, false).look();
        new WrongCallsTest("one at work on the last worker", WrongCallsTest::lastAtWork, new int[] {1, 1},
                new boolean[] {true, true}, 5, Due.HELP, true).look();
        new WrongCallsTest("one in a row", WrongCallsTest::lastInRow, new int[] {1, 2, 1},
                new boolean[] {true, true, true}, 3, Due.FREE, false).look();
        new WrongCallsTest("one awaiting beside the stacks", () -> freeBlocked(3), new int[] {1, 1, 0},
                new boolean[] {true, true, false}, 4, Due.FREE, false).look();
        new WrongCallsTest("all awaiting on a stack", WrongCallsTest::stackOfAll, new int[] {1}, new boolean[] {true},
                1, Due.HELP, true).look();
        Due.end();
    }

    private static BobbinPool submitted(int count, BobbinPool x) {
        for (int i = 0; i < count; i++) {
            x.submit(0);
        }
        return x;
    }

    /** 22 are done, one is failed, one is cancelled. */
    private static BobbinPool allOver() {
        BobbinPool x = submitted(22, Due.pool("await 0, await 1", "fail"));
        x.keep(0, 7);
        x.keep(1, -9);
        x.submit(1);
        x.submit(0);
        x.cancel(23);
        x.tick(1);
        return x;
    }

    /** All were awaiting, and are freed by one promise. */
    private static BobbinPool fullRow() {
        BobbinPool x = submitted(24, Due.pool("await 5"));
        x.tick(1);
        x.keep(5, 1);
        return x;
    }

    private static BobbinPool lastAtWork() {
        BobbinPool x = Due.pool(5, Due.HELP, 2, "work 1", "work 9");
        submitted(4, x);
        x.submit(1);
        x.tick(1);
        return x;
    }

    /** The worker 2 has a forked task in its row. */
    private static BobbinPool lastInRow() {
        BobbinPool x = Due.pool(5, Due.FREE, 2, "work 1", "fork 2, work 1", "work 9");
        submitted(2, x);
        x.submit(1);
        x.tick(1);
        return x;
    }

    /** A task was blocked on this worker and is on no stack. */
    private static BobbinPool freeBlocked(int worker) {
        BobbinPool x = Due.pool(5, Due.FREE, 0, "work 1", "await 0", "");
        submitted(worker, x);
        x.submit(1);
        x.tick(1);
        return x;
    }

    private static BobbinPool stackOfAll() {
        BobbinPool x = submitted(24, Due.pool(1, Due.HELP, 0, "await 5"));
        x.tick(1);
        return x;
    }

    private void look() {
        changes();
        tasksAsked();
        workersAsked();
        ahead();
        twin.end();
    }

    private void call(String what, Class<?> want, Twin.Call call) {
        if (want == null) {
            Class<?> got = Twin.thrown(maker.make(), call);
            Due.is(name + ": " + what + " throws " + got, got == null ? 1 : 0, 1);
        } else {
            twin.add(what, want, call);
        }
    }

    private boolean isJob(int job) {
        return job >= 0 && job < steps.length;
    }

    private boolean isTask(int task) {
        return task >= 0 && task < asked.tasks();
    }

    private boolean isWorker(int worker) {
        return worker >= 0 && worker < asked.workers();
    }

    private static boolean within(int n, int least, int most) {
        return n >= least && n <= most;
    }

    private static Class<?> argument(boolean right) {
        return right ? null : Due.ARGUMENT;
    }

    private int[] jobs() {
        return new int[] {MIN, -1, 0, 1, steps.length - 1, steps.length, 7, 8, MAX};
    }

    private void changes() {
        call("addJob()", steps.length == 8 ? Due.STATE : null, BobbinPool::addJob);
        for (int job : jobs()) {
            call("submit(" + job + ")", !isJob(job) ? Due.INDEX : asked.tasks() == 24 ? Due.STATE : null,
                    x -> x.submit(job));
            for (int code : new int[] {MIN, -1, 0, 1, 2, 3, 4, 5, 6, 7, 8, 9, 10, MAX}) {
                for (int n : new int[] {MIN, -101, -100, -1, 0, 1, 2, 5, 6, 7, 8, 20, 21, 100, 101, MAX}) {
                    call("addStep(" + job + ", " + code + ", " + n + ")", addStep(job, code, n),
                            x -> x.addStep(job, code, n));
                }
            }
        }
        for (int workers : new int[] {MIN, -1, 0, 1, 2, 3, 4, 5, 6, MAX}) {
            call("setWorkers(" + workers + ")",
                    !within(workers, 1, 5) ? Due.ARGUMENT : workers < needed ? Due.STATE : null,
                    x -> x.setWorkers(workers));
        }
        for (int to : new int[] {MIN, -1, 0, 1, 2, 3, MAX}) {
            for (int theft : new int[] {MIN, -1, 0, 1, 2, 3, MAX}) {
                boolean right = within(to, 0, 2) && within(theft, 0, 2);
                call("setWay(" + to + ", " + theft + ")",
                        !right ? Due.ARGUMENT : stacked && to != way ? Due.STATE : null, x -> x.setWay(to, theft));
            }
        }
        for (int promise : new int[] {MIN, -1, 0, 5, 6, MAX}) {
            for (int number : new int[] {MIN, -1000, -999, 0, 999, 1000, MAX}) {
                call("keep(" + promise + ", " + number + ")",
                        !within(promise, 0, 5) ? Due.INDEX : argument(within(number, -999, 999)),
                        x -> x.keep(promise, number));
            }
        }
        for (int ticks : new int[] {MIN, -1, 0, 1, 40, 41, MAX}) {
            call("tick(" + ticks + ")", argument(within(ticks, 1, 40)), x -> x.tick(ticks));
        }
    }

    private Class<?> addStep(int job, int code, int n) {
        if (!isJob(job)) {
            return Due.INDEX;
        }
        boolean right = switch (code) {
            case 0 -> within(n, 1, 20);
            case 1 -> isJob(n);
            case 5 -> within(n, -100, 100);
            case 8, 9 -> within(n, 0, 5);
            case 2, 3, 4, 6, 7 -> true;
            default -> false;
        };
        if (!right) {
            return Due.ARGUMENT;
        }
        return steps[job] == 12 || used[job] ? Due.STATE : null;
    }

    private void tasksAsked() {
        for (int task : new int[] {MIN, -1, 0, asked.tasks() - 1, asked.tasks(), 23, 24, MAX}) {
            Class<?> want = isTask(task) ? null : Due.INDEX;
            call("cancel(" + task + ")", want == null && asked.stateOf(task) >= Due.DONE ? Due.STATE : want,
                    x -> x.cancel(task));
            call("stateOf(" + task + ")", want, x -> x.stateOf(task));
            call("valueOf(" + task + ")", want, x -> x.valueOf(task));
            call("stepOf(" + task + ")", want, x -> x.stepOf(task));
            call("parentOf(" + task + ")", want, x -> x.parentOf(task));
            call("childrenOf(" + task + ")", want, x -> x.childrenOf(task));
            call("workOf(" + task + ")", want, x -> x.workOf(task));
            call("overAt(" + task + ")", want, x -> x.overAt(task));
        }
        for (int promise : new int[] {MIN, -1, 0, 5, 6, MAX}) {
            call("promise(" + promise + ")", within(promise, 0, 5) ? null : Due.INDEX, x -> x.promise(promise));
        }
    }

    private void workersAsked() {
        for (int worker : new int[] {MIN, -2, -1, 0, asked.workers() - 1, asked.workers(), 4, 5, MAX}) {
            Class<?> want = isWorker(worker) ? null : Due.INDEX;
            call("top(" + worker + ")", want, x -> x.top(worker));
            call("stack(" + worker + ")", want, x -> x.stack(worker));
            boolean hasRow = worker == -1 || isWorker(worker);
            call("row(" + worker + ")", hasRow ? null : Due.INDEX, x -> x.row(worker));
            int size = hasRow ? asked.row(worker) : 0;
            for (int place : new int[] {MIN, -1, 0, size - 1, size, 23, 24, MAX}) {
                call("inRow(" + worker + ", " + place + ")", within(place, 0, size - 1) ? null : Due.INDEX,
                        x -> x.inRow(worker, place));
            }
            for (int what : new int[] {MIN, -1, 0, 1, 2, 3, MAX}) {
                call("told(" + worker + ", " + what + ")", want != null ? want : argument(within(what, 0, 2)),
                        x -> x.told(worker, what));
            }
            for (int back : new int[] {MIN, -1, 0, 1, 20, 21, MAX}) {
                call("ran(" + worker + ", " + back + ")", want != null ? want : argument(within(back, 1, 20)),
                        x -> x.ran(worker, back));
            }
        }
    }

    private void ahead() {
        for (int ticks : new int[] {MIN, -1, 0, 1, 40, 60, 61, MAX}) {
            Class<?> want = argument(within(ticks, 1, 60));
            call("haltsIn(" + ticks + ")", want, x -> x.haltsIn(ticks));
            for (int task : new int[] {MIN, -1, 0, asked.tasks() - 1, asked.tasks(), 24, MAX}) {
                call("overIn(" + task + ", " + ticks + ")", isTask(task) ? want : Due.INDEX,
                        x -> x.overIn(task, ticks));
                call("valueIn(" + task + ", " + ticks + ")", isTask(task) ? want : Due.INDEX,
                        x -> x.valueIn(task, ticks));
            }
        }
        for (int job : jobs()) {
            for (int workers : new int[] {MIN, -1, 0, 1, 5, 6, MAX}) {
                for (int to : new int[] {MIN, -1, 0, 2, 3, MAX}) {
                    call("alone(" + job + ", " + workers + ", " + to + ")",
                            !isJob(job) ? Due.INDEX : argument(within(workers, 1, 5) && within(to, 0, 2)),
                            x -> x.alone(job, workers, to));
                }
            }
        }
        call("digest()", null, BobbinPool::digest);
        call("halted()", null, BobbinPool::halted);
        call("load()", null, BobbinPool::load);
        call("clock()", null, BobbinPool::clock);
        call("tasks()", null, BobbinPool::tasks);
        call("workers()", null, BobbinPool::workers);
    }
}
