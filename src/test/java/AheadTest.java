/** Promises 29 to 33: overIn, valueIn, haltsIn, alone, digest; none of them changes anything. */
public final class AheadTest {
    private static final int[] WRONG_TICKS = {0, 61, -1, Integer.MAX_VALUE, Integer.MIN_VALUE};

    public static void main(String[] args) {
        overInCountsTicks();
        overInOfAnyEnd();
        overInRefuses();
        valueInGoesAhead();
        valueInWithEachPromise();
        aheadFreesOnTheRightWorker();
        valueInRefuses();
        haltsInRefuses();
        aloneIsAnew();
        aloneBehindOthers();
        aloneWithManyWorkers();
        aloneWithTheWay();
        aloneWithTheTheft();
        aloneWithinSixty();
        aloneRefuses();
        nothingIsChanged();
        aheadIsWhatComes();
        digestByHand();
        Due.end();
    }

    private static void overInCountsTicks() {
        BobbinPool x = Due.pool("work 4", "work 20, work 20, work 20");
        x.submit(0);
        x.submit(0);
        Due.is("overIn(0, 60)", x.overIn(0, 60), 4);
        Due.is("overIn(0, 4)", x.overIn(0, 4), 4);
        Due.is("overIn(0, 3)", x.overIn(0, 3), -1);
        Due.is("overIn(1, 8)", x.overIn(1, 8), 8);
        Due.is("overIn(1, 7)", x.overIn(1, 7), -1);
        x.tick(3);
        Due.is("overIn(0, 1)", x.overIn(0, 1), 1);
        x.tick(1);
        Due.is("overIn(0, 1) as it is", x.overIn(0, 1), 0);
        Due.is("overIn(1, 60)", x.overIn(1, 60), 4);
        x.cancel(1);
        Due.is("overIn(1, 60) of a cancelled one", x.overIn(1, 60), 0);
        x.submit(1);
        Due.is("overIn(2, 60)", x.overIn(2, 60), 60);
        Due.is("overIn(2, 59)", x.overIn(2, 59), -1);
    }

    private static void overInOfAnyEnd() {
        BobbinPool x = Due.pool("fork 1, work 2, stop", "await 0", "work 3, fail");
        x.setWorkers(3);
        x.submit(0);
        x.submit(2);
        x.tick(1);
        Due.is("overIn(0, 9) of one that is done", x.overIn(0, 9), 2);
        Due.is("overIn(1, 9) of one that fails", x.overIn(1, 9), 3);
        Due.is("overIn(2, 9) of one that is cancelled", x.overIn(2, 9), 2);
        BobbinPool y = Due.pool("await 0");
        y.submit(0);
        Due.is("overIn(0, 60) of one that waits", y.overIn(0, 60), -1);
    }

    private static void overInRefuses() {
        BobbinPool x = Due.pool("work 1");
        x.submit(0);
        for (int wrong : WRONG_TICKS) {
            Due.refuses("overIn(0, " + wrong + ")", x, Due.ARGUMENT, () -> x.overIn(0, wrong));
            Due.refuses("overIn(1, " + wrong + ")", x, Due.INDEX, () -> x.overIn(1, wrong));
        }
        Due.refuses("overIn(-1, 1)", x, Due.INDEX, () -> x.overIn(-1, 1));
        Due.refuses("overIn(24, 1)", x, Due.INDEX, () -> x.overIn(24, 1));
        x.tick(1);
        Due.refuses("overIn(0, 0) of one that is over", x, Due.ARGUMENT, () -> x.overIn(0, 0));
    }

    private static void valueInGoesAhead() {
        BobbinPool x = Due.pool("add 1, work 2, add 10, fork 1, work 1, join", "work 3, add 100", "await 2, add 1");
        x.submit(0);
        Due.is("valueIn(0, 1)", x.valueIn(0, 1), 1);
        Due.is("valueIn(0, 2)", x.valueIn(0, 2), 1);
        Due.is("valueIn(0, 3)", x.valueIn(0, 3), 11);
        Due.is("valueIn(0, 6)", x.valueIn(0, 6), 11);
        Due.is("valueIn(0, 7)", x.valueIn(0, 7), 111);
        Due.is("valueIn(0, 60)", x.valueIn(0, 60), 111);
        Due.is("valueOf(0)", x.valueOf(0), 0);
        x.submit(2);
        x.keep(2, 50);
        Due.is("valueIn(1, 60), with a kept promise", x.valueIn(1, 60), 51);
        x.tick(40);
        Due.is("valueIn(0, 1) of one that is over", x.valueIn(0, 1), 111);
    }

    private static void valueInWithEachPromise() {
        for (int promise = 0; promise < 6; promise++) {
            BobbinPool x = Due.pool("await " + promise, "await " + (promise + 1) % 6);
            x.keep(promise, 30 + promise);
            x.submit(0);
            x.submit(1);
            Due.is("valueIn(0, 1)", x.valueIn(0, 1), 30 + promise);
            Due.is("overIn(0, 1)", x.overIn(0, 1), 1);
            Due.is("overIn(1, 1)", x.overIn(1, 1), -1);
        }
    }

    private static void aheadFreesOnTheRightWorker() {
        // 1 is blocked on the worker 2 and freed in the tick 4: with theft 2 only that worker takes it.
        BobbinPool x = Due.pool(3, Due.FREE, 2, "work 3, keep 0, work 9", "await 0, work 2", "work 2", "work 9");
        x.submit(0);
        x.submit(2);
        x.submit(1);
        x.tick(1);
        Due.is("stateOf(2)", x.stateOf(2), Due.AWAITING);
        Due.is("overIn(2, 60), with that worker idle", x.overIn(2, 60), 4);
        // That worker takes 3 in the tick 2, and is at work with it up to the tick 10.
        x.submit(3);
        Due.is("overIn(2, 60), with that worker at work", x.overIn(2, 60), 11);
        x.tick(1);
        Due.is("top(2)", x.top(2), 3);
    }

    private static void valueInRefuses() {
        BobbinPool x = Due.pool("work 1");
        x.submit(0);
        for (int wrong : WRONG_TICKS) {
            Due.refuses("valueIn(0, " + wrong + ")", x, Due.ARGUMENT, () -> x.valueIn(0, wrong));
            Due.refuses("valueIn(1, " + wrong + ")", x, Due.INDEX, () -> x.valueIn(1, wrong));
        }
        Due.refuses("valueIn(-1, 1)", x, Due.INDEX, () -> x.valueIn(-1, 1));
    }

    private static void haltsInRefuses() {
        BobbinPool x = Due.pool("await 0");
        x.submit(0);
        for (int wrong : WRONG_TICKS) {
            Due.refuses("haltsIn(" + wrong + ")", x, Due.ARGUMENT, () -> x.haltsIn(wrong));
        }
        Due.is("haltsIn(1)", x.haltsIn(1), 1);
        x.tick(1);
        Due.refuses("haltsIn(0) as it is", x, Due.ARGUMENT, () -> x.haltsIn(0));
        x.cancel(0);
        Due.is("haltsIn(60) with all over", x.haltsIn(60), -1);
    }

    private static void aloneIsAnew() {
        BobbinPool x = Due.pool("work 3", "await 1, work 2", "fork 0, fork 0, work 1, joinall", "", "keep 1, await 1");
        x.submit(0);
        x.keep(1, 5);
        x.tick(2);
        Due.is("alone(0, 1, 0)", x.alone(0, 1, 0), 3);
        Due.is("alone(1, 1, 0), in which no promise is kept", x.alone(1, 1, 0), -1);
        Due.is("alone(2, 1, 0)", x.alone(2, 1, 0), 8);
        Due.is("alone(3, 1, 0)", x.alone(3, 1, 0), 1);
        Due.is("alone(4, 1, 0)", x.alone(4, 1, 0), 1);
        Due.is("alone(0, 1, 0) again", x.alone(0, 1, 0), 3);
        for (int i = 0; i < 23; i++) {
            x.submit(3);
        }
        Due.is("alone(2, 1, 0) beside 24 tasks", x.alone(2, 1, 0), 8);
        Due.is("tasks()", x.tasks(), 24);
        Due.is("clock()", x.clock(), 2);
    }

    private static void aloneBehindOthers() {
        // Whatever was tried out before, alone() begins anew.
        String[] scripts = {
            "fork 1, fork 1, fork 2, work 2, try, try, try, keep 0", "work 3, await 0, fork 3",
            "join, work 2, fail", "work 2"
        };
        BobbinPool fresh = Due.pool(scripts);
        for (int way = 0; way <= 2; way++) {
            BobbinPool x = Due.pool(4, way, 0, scripts);
            for (int i = 0; i < 8; i++) {
                x.submit(i < 6 ? 0 : i - 5);
            }
            for (int ticks = 1; ticks <= 12; ticks++) {
                for (int job = 0; job < 4; job++) {
                    for (int workers = 1; workers <= 3; workers++) {
                        String call = "alone(" + job + ", " + workers + ", " + way + ") behind " + ticks + " ticks";
                        int want = Due.pool(scripts).alone(job, workers, way);
                        x.valueIn(0, ticks);
                        Due.is(call, x.alone(job, workers, way), want);
                        Due.is(call + ", of one not used", fresh.alone(job, workers, way), want);
                    }
                }
            }
        }
    }

    private static void aloneWithManyWorkers() {
        // With one worker each child runs in turn, and the parent goes on in the tick behind the last one.
        // With two the worker 1 steals 1 in the tick 1 and runs it in the ticks 2 to 4, while the worker 0 is at
        // work in the tick 1, takes 2 in the tick 2 and runs it in the ticks 2 to 4: the parent, freed as 2 ends,
        // then waits for 1, which ends in the turn of the worker 1, and goes on in the tick 5.
        BobbinPool x = Due.pool("work 3", "fork 0, fork 0, work 1, joinall", "fork 0, work 5");
        Due.is("alone(1, 1, 0)", x.alone(1, 1, 0), 8);
        Due.is("alone(1, 2, 0)", x.alone(1, 2, 0), 5);
        Due.is("alone(1, 5, 0)", x.alone(1, 5, 0), 5);
        Due.is("alone(2, 1, 0), till all are over", x.alone(2, 1, 0), 8);
        Due.is("alone(2, 2, 0)", x.alone(2, 2, 0), 5);
        Due.is("workers()", x.workers(), 1);
    }

    private static void aloneWithTheWay() {
        BobbinPool x = Due.pool("work 3", "fork 0, join");
        Due.is("alone(1, 1, 0), the parent a tick behind the work", x.alone(1, 1, 0), 4);
        Due.is("alone(1, 1, 1), that is halted", x.alone(1, 1, 1), -1);
        Due.is("alone(1, 1, 2)", x.alone(1, 1, 2), 4);
        Due.is("alone(1, 2, 1)", x.alone(1, 2, 1), 5);
        // The way and the workers of the pool itself do not count.
        x.setWay(Due.HOLD, 0);
        x.setWorkers(3);
        Due.is("alone(1, 1, 0), the parent a tick behind the work", x.alone(1, 1, 0), 4);
        Due.is("alone(1, 1, 1)", x.alone(1, 1, 1), -1);
        Due.is("setWay(0, 0)", x.setWay(0, 0), 1);
    }

    private static void aloneWithTheTheft() {
        BobbinPool x = Due.pool("work 3", "fork 0, work 3");
        Due.is("alone(1, 2, 0) with theft 0", x.alone(1, 2, 0), 4);
        x.setWay(0, 2);
        Due.is("alone(1, 2, 0) with theft 2", x.alone(1, 2, 0), 6);
        x.setWay(0, 1);
        Due.is("alone(1, 2, 0) with theft 1", x.alone(1, 2, 0), 4);
    }

    private static void aloneWithinSixty() {
        BobbinPool x = Due.pool("work 20, work 20, work 20", "work 20, work 20, work 20, add 1",
                "work 20, work 20, work 19, add 1");
        Due.is("alone(0, 1, 0)", x.alone(0, 1, 0), 60);
        Due.is("alone(1, 1, 0)", x.alone(1, 1, 0), -1);
        Due.is("alone(2, 1, 0)", x.alone(2, 1, 0), 60);
    }

    private static void aloneRefuses() {
        BobbinPool x = Due.pool("work 1");
        for (int wrong : new int[] {1, -1, 8, Integer.MAX_VALUE, Integer.MIN_VALUE}) {
            Due.refuses("alone(" + wrong + ", 1, 0)", x, Due.INDEX, () -> x.alone(wrong, 1, 0));
            Due.refuses("alone(" + wrong + ", 0, 3)", x, Due.INDEX, () -> x.alone(wrong, 0, 3));
        }
        for (int wrong : new int[] {0, 6, -1, Integer.MAX_VALUE, Integer.MIN_VALUE}) {
            Due.refuses("alone(0, " + wrong + ", 0)", x, Due.ARGUMENT, () -> x.alone(0, wrong, 0));
        }
        for (int wrong : new int[] {3, -1, Integer.MAX_VALUE, Integer.MIN_VALUE}) {
            Due.refuses("alone(0, 1, " + wrong + ")", x, Due.ARGUMENT, () -> x.alone(0, 1, wrong));
        }
    }

    private static BobbinPool busy() {
        BobbinPool x = Due.pool(3, Due.HELP, 1,
                "fork 1, fork 2, work 2, join, await 0, try, keep 1", "add 5, work 3, fork 2, join",
                "work 2, add 7, fail", "await 1, work 1");
        x.submit(0);
        x.submit(3);
        x.submit(1);
        x.submit(0);
        x.tick(2);
        return x;
    }

    private static void nothingIsChanged() {
        BobbinPool x = busy();
        long before = x.digest();
        for (int task = 0; task < x.tasks(); task++) {
            x.overIn(task, 60);
            x.valueIn(task, 60);
        }
        x.haltsIn(60);
        x.alone(0, 5, 1);
        Due.is("digest() behind all that would be", x.digest(), before);
        Due.is("digest() again", x.digest(), before);
        BobbinPool y = busy();
        Due.is("digest() of another one", y.digest(), before);
        x.tick(9);
        y.tick(9);
        Due.is("digest() of both, later", x.digest(), y.digest());
    }

    private static void aheadIsWhatComes() {
        for (int ticks = 1; ticks <= 40; ticks++) {
            BobbinPool x = busy();
            int tasks = x.tasks();
            int[] over = new int[tasks];
            int[] value = new int[tasks];
            for (int task = 0; task < tasks; task++) {
                over[task] = x.overIn(task, ticks);
                value[task] = x.valueIn(task, ticks);
            }
            int halts = x.haltsIn(ticks);
            int start = x.clock();
            x.tick(ticks);
            for (int task = 0; task < tasks; task++) {
                int came = x.overAt(task) < 0 ? -1 : Math.max(0, x.overAt(task) + 1 - start);
                Due.is("overIn(" + task + ", " + ticks + ")", over[task], came);
                Due.is("valueIn(" + task + ", " + ticks + ")", value[task], x.valueOf(task));
            }
            Due.is("haltsIn(" + ticks + ") is told", halts >= 0 ? 1 : 0, x.halted() > 0 ? 1 : 0);
        }
    }

    private static void digestByHand() {
        BobbinPool x = new BobbinPool();
        long[] numbers = {
            0, 0, 1, 0,
            -1000000, -1000000, -1000000, -1000000, -1000000, -1000000,
            0, 0,
            -1, 0, 0, 0, 0, -2, -2, -2
        };
        Due.is("digest() of a new one", x.digest(), sum(numbers));

        BobbinPool y = Due.pool(2, Due.HOLD, 2, "add 3, fork 1, keep 1, await 0", "work 2");
        y.submit(0);
        y.submit(1);
        y.submit(1);
        y.submit(1);
        y.tick(1);
        // The worker 0 holds 0, which is awaiting; 4 is in its row; the worker 1 runs 1; 2 and 3 are common.
        long[] more = {
            1, 5, 2, 0,
            3, 3, 3, -1, 16, 0, -1,
            1, 0, 0, -1, 0, 1, -1,
            0, 0, 0, -1, 0, 0, -1,
            0, 0, 0, -1, 0, 0, -1,
            0, 0, 0, 0, 0, 0, -1,
            -1000000, 3, -1000000, -1000000, -1000000, -1000000,
            2, 2, 3, 1, 4, 0,
            0, 1, 0, 1, 0, -1, -2, -2,
            1, 1, 1, 0, 0, 1, -2, -2
        };
        Due.is("digest()", y.digest(), sum(more));
        y.cancel(1);
        y.cancel(2);
        y.cancel(3);
        long[] last = {
            1, 5, 2, 7,
            3, 3, 3, -1, 16, 0, -1,
            6, 0, 0, -1, 0, 1, 1,
            6, 0, 0, -1, 0, 0, 1,
            6, 0, 0, -1, 0, 0, 1,
            0, 0, 0, 0, 0, 0, -1,
            -1000000, 3, -1000000, -1000000, -1000000, -1000000,
            0, 1, 4, 0,
            0, 1, 0, 1, 0, -1, -2, -2,
            -1, 0, 1, 0, 0, 1, -2, -2
        };
        Due.is("digest() behind the cancelled ones", y.digest(), sum(last));
    }

    private static long sum(long[] numbers) {
        long d = 58063;
        for (long x : numbers) {
            d = d * 31 + x;
        }
        return d;
    }
}
