import java.util.ArrayList;
import java.util.List;

/** What the tests share: pools written in short, answers compared, refusals looked at. */
final class Due {
    static final Class<?> INDEX = IndexOutOfBoundsException.class;
    static final Class<?> ARGUMENT = IllegalArgumentException.class;
    static final Class<?> STATE = IllegalStateException.class;
    static final int READY = 0;
    static final int RUNNING = 1;
    static final int JOINING = 2;
    static final int AWAITING = 3;
    static final int DONE = 4;
    static final int FAILED = 5;
    static final int CANCELLED = 6;
    static final int FREE = 0;
    static final int HOLD = 1;
    static final int HELP = 2;
    static final int NOT_KEPT = -1000000;

    private static final List<String> STEPS =
            List.of("work", "fork", "join", "joinall", "try", "add", "fail", "stop", "await", "keep");
    /** Numbers for the steps that have none, as these are not looked at. */
    private static final int[] UNLOOKED = {3, Integer.MIN_VALUE, 1, 77, 0, Integer.MAX_VALUE, 2};
    /** Far above what a test needs; one that takes longer has met a call that does not end. */
    private static final long LONGEST = 120000;
    private static int wrong = 0;
    private static int looked = 0;

    static {
        Thread watch = new Thread(Due::watch);
        watch.setDaemon(true);
        watch.start();
    }

    private Due() {
    }

    private static void watch() {
        try {
            Thread.sleep(LONGEST);
        } catch (InterruptedException e) {
            return;
        }
        System.out.println("a call did not end within " + LONGEST / 1000 + " seconds");
        Runtime.getRuntime().halt(1);
    }

    /** A pool with one job for each text; a text as "work 3, fork 1, join". */
    static BobbinPool pool(String... scripts) {
        BobbinPool x = new BobbinPool();
        for (int job = 0; job < scripts.length; job++) {
            x.addJob();
        }
        for (int job = 0; job < scripts.length; job++) {
            for (int[] step : steps(scripts[job])) {
                x.addStep(job, step[0], step[1]);
            }
        }
        return x;
    }

    /** The same with workers, a way and a theft. */
    static BobbinPool pool(int workers, int way, int theft, String... scripts) {
        BobbinPool x = pool(scripts);
        x.setWorkers(workers);
        x.setWay(way, theft);
        return x;
    }

    private static List<int[]> steps(String script) {
        List<int[]> steps = new ArrayList<>();
        for (String text : script.split(",")) {
            String[] words = text.trim().split(" ");
            if (!words[0].isEmpty()) {
                int unlooked = UNLOOKED[steps.size() % UNLOOKED.length];
                int n = words.length > 1 ? Integer.parseInt(words[1]) : unlooked;
                steps.add(new int[] {STEPS.indexOf(words[0]), n});
            }
        }
        return steps;
    }

    static int set(int... members) {
        int set = 0;
        for (int member : members) {
            set |= 1 << member;
        }
        return set;
    }

    static void is(String what, long got, long want) {
        looked++;
        if (got != want) {
            tell(what + " answered " + got + ", due is " + want);
        }
    }

    static void isReal(String what, double got, double want) {
        looked++;
        if (got != want) {
            tell(what + " answered " + got + ", due is " + want);
        }
    }

    /** The states of all tasks, by their numbers. */
    static void states(String what, BobbinPool x, int... want) {
        is(what + ": tasks()", x.tasks(), want.length);
        for (int t = 0; t < want.length && t < x.tasks(); t++) {
            is(what + ": stateOf(" + t + ")", x.stateOf(t), want[t]);
        }
    }

    /** The tasks of a row, from the first one. */
    static void row(String what, BobbinPool x, int worker, int... want) {
        is(what + ": row(" + worker + ")", x.row(worker), want.length);
        for (int place = 0; place < want.length && place < x.row(worker); place++) {
            is(what + ": inRow(" + worker + ", " + place + ")", x.inRow(worker, place), want[place]);
        }
    }

    /** Looks whether a call throws just this, and changes nothing. */
    static void refuses(String what, BobbinPool x, Class<?> want, Runnable call) {
        looked++;
        long before = x.digest();
        Class<?> got = null;
        try {
            call.run();
        } catch (RuntimeException e) {
            got = e.getClass();
        }
        if (got != want) {
            tell(what + " throws " + got + ", due is " + want);
        }
        if (x.digest() != before) {
            tell(what + " changed something");
        }
    }

    private static void tell(String text) {
        wrong++;
        System.out.println(text);
    }

    static void end() {
        System.out.println(looked + " looked at, " + wrong + " wrong");
        if (wrong != 0) {
            System.exit(1);
        }
    }
}
