import java.util.Random;

/** Runs of calls by dice (always the same ones), each answer held against PlainModel. */
public final class ModelTest {
    private static final int RUNS = 4000;
    private static final int CALLS = 120;

    private final Random dice;
    private final BobbinPool x = new BobbinPool();
    private final PlainModel model = new PlainModel();
    private final StringBuilder log = new StringBuilder();
    private boolean agrees = true;

    private ModelTest(long seed) {
        dice = new Random(seed);
    }

    public static void main(String[] args) {
        int bad = 0;
        for (int seed = 0; seed < RUNS && bad < 3; seed++) {
            ModelTest run = new ModelTest(seed);
            run.go();
            if (!run.agrees) {
                bad++;
                System.out.println("run " + seed + ":\n" + run.log);
            }
        }
        Due.is("runs that do not agree", bad, 0);
        Due.end();
    }

    private void same(String call, long got, long want) {
        log.append(call).append(" = ").append(got).append(got == want ? "\n" : ", due is " + want + "\n");
        agrees &= got == want;
    }

    /** What the program threw, in a word; "" if nothing. */
    private static String thrown(Runnable call) {
        try {
            call.run();
            return "";
        } catch (RuntimeException e) {
            return e.getClass().getSimpleName();
        }
    }

    private void refused(String call, Class<?> want, Runnable run) {
        String got = thrown(run);
        log.append(call).append(" throws ").append(got).append("\n");
        agrees &= got.equals(want.getSimpleName());
    }

    private void go() {
        int jobs = 1 + dice.nextInt(5);
        for (int j = 0; j < jobs; j++) {
            same("addJob()", x.addJob(), model.addJob());
        }
        int longest = 1 + dice.nextInt(dice.nextInt(3) == 0 ? 12 : 6);
        for (int j = 0; j < jobs; j++) {
            for (int steps = dice.nextInt(longest + 1); steps > 0; steps--) {
                addStep(j);
            }
        }
        for (int i = 0; i < CALLS && agrees; i++) {
            call();
            same("digest()", x.digest(), model.digest());
            agrees &= x.load() == model.load();
        }
    }

    private void addStep(int job) {
        int code = someCode();
        int n = code == 0 ? 1 + dice.nextInt(dice.nextInt(4) == 0 ? 20 : 3)
                : code == 1 ? dice.nextInt(model.jobs.size())
                : code == 5 ? dice.nextInt(201) - 100 : dice.nextInt(6);
        String call = "addStep(" + job + ", " + code + ", " + n + ")";
        if (model.jobs.get(job).size() >= 12 || model.hasTaskOf(job)) {
            refused(call, IllegalStateException.class, () -> x.addStep(job, code, n));
        } else {
            same(call, x.addStep(job, code, n), model.addStep(job, code, n));
        }
    }

    /** Any code, but fewer ends and more forks, so that the runs do not die out. */
    private int someCode() {
        int code = dice.nextInt(10);
        return (code == 6 || code == 7) && dice.nextInt(2) == 0 ? 1 : code;
    }

    private void call() {
        int task = model.spools.isEmpty() ? 0 : dice.nextInt(model.spools.size());
        int ticks = 1 + dice.nextInt(60);
        boolean has = !model.spools.isEmpty();
        switch (dice.nextInt(20)) {
            case 0, 1, 2 -> submit(dice.nextInt(model.jobs.size()));
            case 3 -> setWorkers(1 + dice.nextInt(5));
            case 4 -> setWay(dice.nextInt(3), dice.nextInt(3));
            case 5 -> {
                if (has) {
                    cancel(task);
                }
            }
            case 6 -> {
                int promise = dice.nextInt(6);
                int number = dice.nextInt(1999) - 999;
                if (dice.nextInt(2) == 0) {
                    same("keep(" + promise + ", " + number + ")", x.keep(promise, number) ? 1 : 0,
                            model.keep(promise, number) ? 1 : 0);
                }
            }
            case 7 -> addStep(dice.nextInt(model.jobs.size()));
            case 8 -> {
                if (model.jobs.size() < 8) {
                    same("addJob()", x.addJob(), model.addJob());
                }
            }
            case 9, 10 -> {
                if (has) {
                    same("overIn(" + task + ", " + ticks + ")", x.overIn(task, ticks), model.overIn(task, ticks));
                    same("valueIn(" + task + ", " + ticks + ")", x.valueIn(task, ticks), model.valueIn(task, ticks));
                }
            }
            case 11 -> same("haltsIn(" + ticks + ")", x.haltsIn(ticks), model.haltsIn(ticks));
            case 12 -> {
                int job = dice.nextInt(model.jobs.size());
                int workers = 1 + dice.nextInt(5);
                int way = dice.nextInt(3);
                same("alone(" + job + ", " + workers + ", " + way + ")", x.alone(job, workers, way),
                        model.alone(job, workers, way));
            }
            case 13 -> {
                int worker = dice.nextInt(model.hands.size());
                int back = 1 + dice.nextInt(20);
                same("ran(" + worker + ", " + back + ")", x.ran(worker, back),
                        model.ran(model.hands.get(worker), back));
            }
            default -> {
                int count = dice.nextInt(4) == 0 ? 1 + dice.nextInt(10) : 1;
                for (int i = 0; i < count; i++) {
                    model.tick();
                }
                same("tick(" + count + ")", x.tick(count), model.unfinished());
            }
        }
    }

    private void submit(int job) {
        if (model.spools.size() >= 24) {
            refused("submit(" + job + ")", IllegalStateException.class, () -> x.submit(job));
        } else {
            same("submit(" + job + ")", x.submit(job), model.submit(job));
        }
    }

    private void setWorkers(int count) {
        if (model.mayHaveWorkers(count)) {
            same("setWorkers(" + count + ")", x.setWorkers(count), model.setWorkers(count));
        } else {
            refused("setWorkers(" + count + ")", IllegalStateException.class, () -> x.setWorkers(count));
        }
    }

    private void setWay(int way, int theft) {
        String call = "setWay(" + way + ", " + theft + ")";
        if (way != model.way && model.anyOnStack()) {
            refused(call, IllegalStateException.class, () -> x.setWay(way, theft));
            return;
        }
        same(call, x.setWay(way, theft), model.way);
        model.way = way;
        model.theft = theft;
    }

    private void cancel(int task) {
        if (model.spools.get(task).over()) {
            refused("cancel(" + task + ")", IllegalStateException.class, () -> x.cancel(task));
        } else {
            same("cancel(" + task + ")", x.cancel(task), model.cancel(task));
        }
    }
}
