import java.util.ArrayList;
import java.util.List;

/**
 * Holds a pool that was called against one that was not: if the calls changed nothing, both go on alike. Each of the
 * two is new, and used for far less than 512 calls.
 */
final class Twin {
    /** How many refused calls one pool gets, so that what follows stays within its 512 calls. */
    private static final int CALLS = 150;
    private static final int THROWN = -7000000;

    interface Maker {
        BobbinPool make();
    }

    interface Call {
        void on(BobbinPool x);
    }

    interface Ask {
        long of(BobbinPool x);
    }

    private final String name;
    private final Maker maker;
    private final List<Call> refused = new ArrayList<>();

    /** A row of refused calls, all on pools of one kind. */
    Twin(String name, Maker maker) {
        this.name = name;
        this.maker = maker;
    }

    /** Looks whether a call on a new pool throws just this, and changes nothing. */
    static void refuses(String what, Maker maker, Class<?> want, Call call) {
        Twin twin = new Twin(what, maker);
        twin.add(what, want, call);
        twin.end();
    }

    /** Looks whether calls that answer change nothing. */
    static void keeps(String what, Maker maker, Call call) {
        BobbinPool x = maker.make();
        call.on(x);
        compare(what, x, maker.make());
    }

    void add(String what, Class<?> want, Call call) {
        Class<?> got = thrown(maker.make(), call);
        Due.is(name + ": " + what + " throws " + got + ", due is " + want, got == want ? 1 : 0, 1);
        refused.add(call);
        if (refused.size() == CALLS) {
            end();
        }
    }

    /** Looks whether the calls up to now changed something, all on one pool. */
    void end() {
        BobbinPool x = maker.make();
        for (Call call : refused) {
            thrown(x, call);
        }
        refused.clear();
        compare(name + ", behind refused calls", x, maker.make());
    }

    static Class<?> thrown(BobbinPool x, Call call) {
        try {
            call.on(x);
            return null;
        } catch (RuntimeException e) {
            return e.getClass();
        }
    }

    private static void compare(String what, BobbinPool x, BobbinPool other) {
        List<String> names = new ArrayList<>();
        List<Long> got = tour(x, names);
        List<Long> want = tour(other, new ArrayList<>());
        for (int i = 0; i < want.size(); i++) {
            if (!got.get(i).equals(want.get(i))) {
                Due.is(what + ": " + names.get(i) + " of a pool that should go on alike", got.get(i), want.get(i));
                return;
            }
        }
        Due.is(what + ": the calls of the tour", got.size(), want.size());
    }

    private static List<Long> tour(BobbinPool x, List<String> names) {
        List<Long> told = new ArrayList<>();
        asks(x, told, names);
        goesOn(x, told, names);
        return told;
    }

    private static void note(BobbinPool x, List<Long> told, List<String> names, String what, Ask ask) {
        long answer;
        try {
            answer = ask.of(x);
        } catch (IndexOutOfBoundsException e) {
            answer = THROWN;
        } catch (IllegalArgumentException e) {
            answer = THROWN - 1;
        } catch (IllegalStateException e) {
            answer = THROWN - 2;
        }
        names.add(what);
        told.add(answer);
    }

    private static void asks(BobbinPool x, List<Long> told, List<String> names) {
        note(x, told, names, "digest()", BobbinPool::digest);
        for (int worker = 0; worker < x.workers(); worker++) {
            int w = worker;
            for (int back = 4; back <= 20; back += 4) {
                int b = back;
                note(x, told, names, "ran(" + w + ", " + b + ")", p -> p.ran(w, b));
            }
        }
        for (int task = 0; task < x.tasks(); task++) {
            int t = task;
            note(x, told, names, "overIn(" + t + ", 60)", p -> p.overIn(t, 60));
            note(x, told, names, "valueIn(" + t + ", 6)", p -> p.valueIn(t, 6));
        }
        note(x, told, names, "haltsIn(60)", p -> p.haltsIn(60));
        for (int job = 0; job <= 8; job++) {
            int j = job;
            note(x, told, names, "alone(" + j + ", 3, 2)", p -> p.alone(j, 3, 2));
        }
    }

    private static void goesOn(BobbinPool x, List<Long> told, List<String> names) {
        for (int i = 1; i <= 3; i++) {
            note(x, told, names, "tick(1)", p -> p.tick(1));
            note(x, told, names, "digest() behind " + i + " ticks", BobbinPool::digest);
        }
        for (int job = 0; job <= 8; job++) {
            int j = job;
            note(x, told, names, "addStep(" + j + ", 5, 1)", p -> p.addStep(j, 5, 1));
            note(x, told, names, "submit(" + j + ")", p -> p.submit(j));
        }
        note(x, told, names, "addJob()", BobbinPool::addJob);
        note(x, told, names, "addStep(7, 1, 8)", p -> p.addStep(7, 1, 8));
        for (int promise = 0; promise < 6; promise++) {
            int p = promise;
            note(x, told, names, "keep(" + p + ", 100)", q -> q.keep(p, 100) ? 1 : 0);
            note(x, told, names, "digest() behind a promise", BobbinPool::digest);
        }
        note(x, told, names, "tick(9)", p -> p.tick(9));
        note(x, told, names, "digest() behind 9 ticks", BobbinPool::digest);
        note(x, told, names, "setWay(1, 2)", p -> p.setWay(1, 2));
        note(x, told, names, "setWorkers(3)", p -> p.setWorkers(3));
        for (int task = 0; task < 24; task++) {
            int t = task;
            note(x, told, names, "cancel(" + t + ")", p -> p.cancel(t));
        }
        note(x, told, names, "digest() of cancelled tasks", BobbinPool::digest);
        note(x, told, names, "setWay(0, 0)", p -> p.setWay(0, 0));
        note(x, told, names, "setWorkers(2)", p -> p.setWorkers(2));
        note(x, told, names, "tick(40)", p -> p.tick(40));
        note(x, told, names, "digest() at last", BobbinPool::digest);
    }
}
