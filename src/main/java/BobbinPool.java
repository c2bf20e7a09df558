import java.util.Arrays;

/**
 * A pool of workers: jobs are written step by step and asked for, ticks go by in which workers take, steal and go
 * through tasks, and one asks who does what, what comes of which task, why all stands still, and what would be.
 */
public final class BobbinPool {
    private static final int MOST_JOBS = 8;
    private static final int MOST_STEPS = 12;
    private static final int MOST_TASKS = 24;
    private static final int MOST_WORKERS = 5;
    private static final int PROMISES = 6;
    private static final int MOST_TICKS = 40;
    private static final int MOST_TICKS_AHEAD = 60;
    private static final int TICKS_TOLD = 20;
    private static final int NOT_KEPT = -1000000;

    private final Book book;
    private final Pool now;
    /** What would be is tried out here, again and again, so that no call makes a pool of its own. */
    private final Pool trial;

    /** Makes a pool with one worker, without jobs. */
    public BobbinPool() {
        book = new Book();
        now = new Pool(book);
        trial = new Pool(book);
    }

    // ---- jobs and the pool

    /** Adds a job without steps; answers its number. */
    public int addJob() throws IllegalStateException {
        if (book.count >= MOST_JOBS) {
            throw new IllegalStateException("there are 8 jobs");
        }
        return book.append();
    }

    /** Adds a step behind the others of a script; answers how many there are then. */
    public int addStep(int job, int code, int n)
            throws IndexOutOfBoundsException, IllegalArgumentException, IllegalStateException {
        needJob(job);
        if (!isStep(code, n)) {
            throw new IllegalArgumentException("no such step");
        }
        Script script = book.scriptAt(job);
        if (script.size >= MOST_STEPS) {
            throw new IllegalStateException("there are 12 steps");
        }
        if (now.hasTaskOf(job)) {
            throw new IllegalStateException("there is a task of the job");
        }
        script.append(code, n);
        return script.size;
    }

    /** Sets how many workers there are; answers how many there were. */
    public int setWorkers(int workers) throws IllegalArgumentException, IllegalStateException {
        needWorkerCount(workers);
        if (now.needsWorkerFrom(workers)) {
            throw new IllegalStateException("a worker that would be gone has a task");
        }
        int before = now.workerCount;
        now.changeWorkerCount(workers);
        return before;
    }

    /** Sets what becomes of blocked tasks, and whose tasks are stolen; answers the way before. */
    public int setWay(int way, int theft) throws IllegalArgumentException, IllegalStateException {
        needWay(way);
        if (theft < 0 || theft > Pool.NO_THEFT) {
            throw new IllegalArgumentException("no such theft");
        }
        if (way != now.way && now.hasStackedTask()) {
            throw new IllegalStateException("a task is on a stack");
        }
        int before = now.way;
        now.way = way;
        now.theft = theft;
        return before;
    }

    /** Asks for a task of a job; answers its number. */
    public int submit(int job) throws IndexOutOfBoundsException, IllegalStateException {
        needJob(job);
        if (now.taskCount >= MOST_TASKS) {
            throw new IllegalStateException("there are 24 tasks");
        }
        return now.askFor(job);
    }

    /** Cancels a task; answers how many are cancelled by that. */
    public int cancel(int task) throws IndexOutOfBoundsException, IllegalStateException {
        needTask(task);
        Task cancelled = now.taskAt(task);
        if (cancelled.isOver()) {
            throw new IllegalStateException("the task is over");
        }
        int below = now.cancelBelow(cancelled);
        now.end(cancelled, Task.CANCELLED);
        return below + 1;
    }

    /** Keeps a promise, if it is not kept yet; answers whether it was not. */
    public boolean keep(int promise, int number) throws IndexOutOfBoundsException, IllegalArgumentException {
        needPromise(promise);
        if (number < -999 || number > 999) {
            throw new IllegalArgumentException("number is not -999 to 999");
        }
        return now.keepPromise(promise, number);
    }

    /** Lets ticks go by; answers how many tasks are not over then. */
    public int tick(int ticks) throws IllegalArgumentException {
        if (ticks < 1 || ticks > MOST_TICKS) {
            throw new IllegalArgumentException("ticks is not 1 to 40");
        }
        for (int i = 0; i < ticks; i++) {
            now.passTick();
        }
        return now.countUnfinished();
    }

    // ---- tasks, asked

    /** Answers how many ticks have gone by. */
    public int clock() {
        return now.clock;
    }

    /** Answers how many tasks there are. */
    public int tasks() {
        return now.taskCount;
    }

    /** Answers the state of a task, 0 to 6. */
    public int stateOf(int task) throws IndexOutOfBoundsException {
        needTask(task);
        return now.taskAt(task).state;
    }

    /** Answers the value of a task. */
    public int valueOf(int task) throws IndexOutOfBoundsException {
        needTask(task);
        return now.taskAt(task).value;
    }

    /** Answers the number of the step at which a task is, or was as it ended. */
    public int stepOf(int task) throws IndexOutOfBoundsException {
        needTask(task);
        return now.taskAt(task).step;
    }

    /** Answers the task that forked this one; -1 without one. */
    public int parentOf(int task) throws IndexOutOfBoundsException {
        needTask(task);
        return now.taskAt(task).parent;
    }

    /** Answers the set of the children of a task. */
    public int childrenOf(int task) throws IndexOutOfBoundsException {
        needTask(task);
        return now.taskAt(task).children;
    }

    /** Answers for how many ticks a task, and all that comes from it, have run. */
    public int workOf(int task) throws IndexOutOfBoundsException {
        needTask(task);
        return now.sumWork(task);
    }

    /** Answers the tick in which a task came to be over; -1 if it is not. */
    public int overAt(int task) throws IndexOutOfBoundsException {
        needTask(task);
        return now.taskAt(task).overAt;
    }

    /** Answers the number of a promise; -1000000 if it is not kept. */
    public int promise(int promise) throws IndexOutOfBoundsException {
        needPromise(promise);
        return now.promiseAt(promise);
    }

    // ---- workers, asked

    /** Answers how many workers there are. */
    public int workers() {
        return now.workerCount;
    }

    /** Answers the task on the top of a worker's stack; -1 without one. */
    public int top(int worker) throws IndexOutOfBoundsException {
        needWorker(worker);
        return now.workerAt(worker).stack.last();
    }

    /** Answers how many tasks are on a worker's stack. */
    public int stack(int worker) throws IndexOutOfBoundsException {
        needWorker(worker);
        return now.workerAt(worker).stack.size;
    }

    /** Answers how many tasks a worker's row has, or with -1 the common row. */
    public int row(int worker) throws IndexOutOfBoundsException {
        needRow(worker);
        return now.rowOf(worker).size;
    }

    /** Answers the task at a place of a worker's row, or with -1 of the common row. */
    public int inRow(int worker, int place) throws IndexOutOfBoundsException {
        needRow(worker);
        Row row = now.rowOf(worker);
        if (place < 0 || place >= row.size) {
            throw new IndexOutOfBoundsException("no such place");
        }
        return row.at(place);
    }

    /** Answers in how many ticks a worker ran a task (0) or was idle (1), or how many tasks it stole (2). */
    public int told(int worker, int what) throws IndexOutOfBoundsException, IllegalArgumentException {
        needWorker(worker);
        if (what < 0 || what > 2) {
            throw new IllegalArgumentException("what is not 0 to 2");
        }
        Worker asked = now.workerAt(worker);
        if (what == 0) {
            return asked.ranTicks;
        }
        return what == 1 ? asked.idleTicks : asked.stolen;
    }

    /** Answers the task that a worker ran some ticks back; -1 if it ran none, -2 if there was no such tick. */
    public int ran(int worker, int back) throws IndexOutOfBoundsException, IllegalArgumentException {
        needWorker(worker);
        if (back < 1 || back > TICKS_TOLD) {
            throw new IllegalArgumentException("back is not 1 to 20");
        }
        return back > now.clock ? -2 : now.workerAt(worker).ranIn(now.clock - back);
    }

    /** Answers 0 if not all is halted; otherwise 4, 1 more if a task is awaiting, 2 more if one is ready. */
    public int halted() {
        if (!now.isHalted()) {
            return 0;
        }
        int awaiting = now.hasTaskIn(Task.AWAITING) ? 1 : 0;
        int ready = now.hasTaskIn(Task.READY) ? 2 : 0;
        return 4 + awaiting + ready;
    }

    /** Answers the part of the told ticks in which the workers ran a task; 0 without any. */
    public double load() {
        int ran = 0;
        int idle = 0;
        for (int w = 0; w < now.workerCount; w++) {
            Worker worker = now.workerAt(w);
            ran += worker.ranTicks;
            idle += worker.idleTicks;
        }
        int all = ran + idle;
        return all == 0 ? 0.0 : (double) ran / (double) all;
    }

    // ---- what would be (nothing is changed)

    /** Answers behind how many ticks a task would be over; -1 if not within so many. */
    public int overIn(int task, int ticks) throws IndexOutOfBoundsException, IllegalArgumentException {
        needTask(task);
        needTicksAhead(ticks);
        trial.copyFrom(now);
        Task watched = trial.taskAt(task);
        for (int i = 0; i < ticks && !watched.isOver(); i++) {
            trial.passTick();
        }
        return watched.isOver() ? trial.clock - now.clock : -1;
    }

    /** Answers the value of a task behind so many ticks. */
    public int valueIn(int task, int ticks) throws IndexOutOfBoundsException, IllegalArgumentException {
        needTask(task);
        needTicksAhead(ticks);
        trial.copyFrom(now);
        for (int i = 0; i < ticks; i++) {
            trial.passTick();
        }
        return trial.taskAt(task).value;
    }

    /** Answers behind how many ticks all would be halted; -1 if not within so many. */
    public int haltsIn(int ticks) throws IllegalArgumentException {
        needTicksAhead(ticks);
        trial.copyFrom(now);
        for (int i = 0; i < ticks && !trial.isHalted(); i++) {
            trial.passTick();
        }
        return trial.isHalted() ? trial.clock - now.clock : -1;
    }

    /** Answers behind how many ticks all would be over, with one task of a job alone in a new pool; -1 if not in 60. */
    public int alone(int job, int workers, int way) throws IndexOutOfBoundsException, IllegalArgumentException {
        needJob(job);
        needWorkerCount(workers);
        needWay(way);
        trial.clear();
        trial.changeWorkerCount(workers);
        trial.way = way;
        trial.theft = now.theft;
        trial.askFor(job);
        for (int i = 0; i < MOST_TICKS_AHEAD && trial.countUnfinished() > 0; i++) {
            trial.passTick();
        }
        return trial.countUnfinished() == 0 ? trial.clock : -1;
    }

    /** Answers a checksum of all that can be asked. */
    public long digest() {
        long d = 58063;
        d = d * 31 + clock();
        d = d * 31 + tasks();
        d = d * 31 + workers();
        d = d * 31 + halted();
        for (int t = 0; t < now.taskCount; t++) {
            d = withTask(d, t);
        }
        for (int p = 0; p < PROMISES; p++) {
            d = d * 31 + promise(p);
        }
        for (int w = Pool.COMMON; w < now.workerCount; w++) {
            d = withRow(d, w);
        }
        for (int w = 0; w < now.workerCount; w++) {
            d = withWorker(d, w);
        }
        return d;
    }

    private long withTask(long before, int task) {
        long d = before;
        d = d * 31 + stateOf(task);
        d = d * 31 + valueOf(task);
        d = d * 31 + stepOf(task);
        d = d * 31 + parentOf(task);
        d = d * 31 + childrenOf(task);
        d = d * 31 + workOf(task);
        return d * 31 + overAt(task);
    }

    private long withRow(long before, int worker) {
        int size = row(worker);
        long d = before * 31 + size;
        for (int place = 0; place < size; place++) {
            d = d * 31 + inRow(worker, place);
        }
        return d;
    }

    private long withWorker(long before, int worker) {
        long d = before;
        d = d * 31 + top(worker);
        d = d * 31 + stack(worker);
        for (int what = 0; what <= 2; what++) {
            d = d * 31 + told(worker, what);
        }
        for (int back = 1; back <= 3; back++) {
            d = d * 31 + ran(worker, back);
        }
        return d;
    }

    // ---- what the calls look at before they do anything

    private void needJob(int job) {
        if (!isJob(job)) {
            throw new IndexOutOfBoundsException("no such job");
        }
    }

    private void needTask(int task) {
        if (task < 0 || task >= now.taskCount) {
            throw new IndexOutOfBoundsException("no such task");
        }
    }

    private void needWorker(int worker) {
        if (worker < 0 || worker >= now.workerCount) {
            throw new IndexOutOfBoundsException("no such worker");
        }
    }

    private void needRow(int worker) {
        if (worker != Pool.COMMON) {
            needWorker(worker);
        }
    }

    private static void needPromise(int promise) {
        if (!isPromise(promise)) {
            throw new IndexOutOfBoundsException("no such promise");
        }
    }

    private static void needWorkerCount(int workers) {
        if (workers < 1 || workers > MOST_WORKERS) {
            throw new IllegalArgumentException("workers is not 1 to 5");
        }
    }

    private static void needWay(int way) {
        if (way < 0 || way > Pool.HELP) {
            throw new IllegalArgumentException("no such way");
        }
    }

    private static void needTicksAhead(int ticks) {
        if (ticks < 1 || ticks > MOST_TICKS_AHEAD) {
            throw new IllegalArgumentException("ticks is not 1 to 60");
        }
    }

    private boolean isJob(int job) {
        return job >= 0 && job < book.count;
    }

    private static boolean isPromise(int promise) {
        return promise >= 0 && promise < PROMISES;
    }

    private boolean isStep(int code, int n) {
        switch (code) {
            case Script.WORK:
                return n >= 1 && n <= 20;
            case Script.FORK:
                return isJob(n);
            case Script.ADD:
                return n >= -100 && n <= 100;
            case Script.AWAIT:
            case Script.KEEP:
                return isPromise(n);
            default:
                return code >= Script.WORK && code <= Script.KEEP;
        }
    }

    /** The steps of one job. */
    private static final class Script {
        static final int WORK = 0;
        static final int FORK = 1;
        static final int JOIN = 2;
        static final int JOIN_ALL = 3;
        static final int TRY = 4;
        static final int ADD = 5;
        static final int FAIL = 6;
        static final int STOP = 7;
        static final int AWAIT = 8;
        static final int KEEP = 9;

        private final int[] codes = new int[MOST_STEPS];
        private final int[] numbers = new int[MOST_STEPS];
        private int size;

        void append(int code, int n) {
            if (size >= 0 && size < MOST_STEPS) {
                codes[size] = code;
                numbers[size] = n;
                size++;
            }
        }

        int codeAt(int step) {
            return step >= 0 && step < MOST_STEPS ? codes[step] : -1;
        }

        int numberAt(int step) {
            return step >= 0 && step < MOST_STEPS ? numbers[step] : 0;
        }
    }

    /** The scripts of all jobs; both pools read the same ones. */
    private static final class Book {
        private final Script[] scripts = new Script[MOST_JOBS];
        private final Script blank = new Script();
        private int count;

        Book() {
            for (int i = 0; i < MOST_JOBS; i++) {
                scripts[i] = new Script();
            }
        }

        int append() {
            int job = count;
            count++;
            return job;
        }

        /** Answers a blank script where there is none, so that no caller meets a missing one. */
        Script scriptAt(int job) {
            return job >= 0 && job < MOST_JOBS ? scripts[job] : blank;
        }
    }

    /** Tasks in an order, by their numbers: a row, or a stack, whose top is the last one. */
    private static final class Row {
        private final int[] numbers = new int[MOST_TASKS];
        private int size;

        void clear() {
            size = 0;
        }

        void copyFrom(Row other) {
            size = other.size;
            for (int i = 0; i < MOST_TASKS; i++) {
                numbers[i] = other.numbers[i];
            }
        }

        int at(int place) {
            return place >= 0 && place < size && place < MOST_TASKS ? numbers[place] : -1;
        }

        int last() {
            return at(size - 1);
        }

        boolean has(int number) {
            for (int i = 0; i < size && i < MOST_TASKS; i++) {
                if (numbers[i] == number) {
                    return true;
                }
            }
            return false;
        }

        void append(int number) {
            if (size >= 0 && size < MOST_TASKS) {
                numbers[size] = number;
                size++;
            }
        }

        /** Takes a task out, if it is here; the others keep their order. */
        void remove(int number) {
            int left = 0;
            for (int i = 0; i < size && i < MOST_TASKS; i++) {
                if (numbers[i] != number) {
                    numbers[left] = numbers[i];
                    left++;
                }
            }
            size = left;
        }
    }

    /** One run through the script of a job. */
    private static final class Task {
        static final int READY = 0;
        static final int RUNNING = 1;
        static final int JOINING = 2;
        static final int AWAITING = 3;
        static final int DONE = 4;
        static final int FAILED = 5;
        static final int CANCELLED = 6;
        static final int GREATEST_VALUE = 999999;

        private final int number;
        private int job;
        private int state;
        private int step;
        private int value;
        private int parent;
        /** A set: children come by rising numbers and the last one is joined first, so the greatest is the last. */
        private int children;
        private int overAt;
        private int ranForStep;
        private int ranInAll;
        private int blockedOn;

        Task(int number) {
            this.number = number;
        }

        void begin(int ofJob, int ofParent) {
            job = ofJob;
            state = READY;
            step = 0;
            value = 0;
            parent = ofParent;
            children = 0;
            overAt = -1;
            ranForStep = 0;
            ranInAll = 0;
            blockedOn = -1;
        }

        void copyFrom(Task other) {
            job = other.job;
            state = other.state;
            step = other.step;
            value = other.value;
            parent = other.parent;
            children = other.children;
            overAt = other.overAt;
            ranForStep = other.ranForStep;
            ranInAll = other.ranInAll;
            blockedOn = other.blockedOn;
        }

        boolean isBlocked() {
            return state == JOINING || state == AWAITING;
        }

        boolean isOver() {
            return state >= DONE;
        }

        int lastChild() {
            return 31 - Integer.numberOfLeadingZeros(children);
        }

        void addValue(int n) {
            value = Math.max(-GREATEST_VALUE, Math.min(GREATEST_VALUE, value + n));
        }
    }

    /** One that goes through tasks, with its row, its stack and what is told of it. */
    private static final class Worker {
        private final Row row = new Row();
        private final Row stack = new Row();
        private int ranTicks;
        private int idleTicks;
        private int stolen;
        /** What it ran in the latest ticks, each at its clock modulo TICKS_TOLD. */
        private final int[] ran = new int[TICKS_TOLD];

        void begin() {
            row.clear();
            stack.clear();
            ranTicks = 0;
            idleTicks = 0;
            stolen = 0;
            Arrays.fill(ran, -1);
        }

        void copyFrom(Worker other) {
            row.copyFrom(other.row);
            stack.copyFrom(other.stack);
            ranTicks = other.ranTicks;
            idleTicks = other.idleTicks;
            stolen = other.stolen;
            for (int i = 0; i < TICKS_TOLD; i++) {
                ran[i] = other.ran[i];
            }
        }

        int ranIn(int clock) {
            return ran[Math.floorMod(clock, TICKS_TOLD)];
        }

        void noteRan(int clock, int task) {
            ran[Math.floorMod(clock, TICKS_TOLD)] = task;
        }
    }

    /** All that ticks change: the tasks, the workers, the promises and the clock. */
    private static final class Pool {
        static final int FREE = 0;
        static final int HELP = 2;
        static final int NEXT_THEFT = 0;
        static final int MOST_THEFT = 1;
        static final int NO_THEFT = 2;
        static final int COMMON = -1;
        static final int NOWHERE = -2;
        /** Far above what 24 tasks of 12 steps can need in one turn. */
        static final int MOST_ACTS = 1000000;

        private final Book book;
        private final Task[] tasks = new Task[MOST_TASKS];
        private final Task blankTask = new Task(-1);
        private int taskCount;
        private final Worker[] workers = new Worker[MOST_WORKERS];
        private final Worker blankWorker = new Worker();
        private int workerCount;
        private final Row common = new Row();
        private final int[] promises = new int[PROMISES];
        private int way;
        private int theft;
        private int clock;

        Pool(Book book) {
            this.book = book;
            for (int i = 0; i < MOST_TASKS; i++) {
                tasks[i] = new Task(i);
            }
            for (int i = 0; i < MOST_WORKERS; i++) {
                workers[i] = new Worker();
            }
            clear();
        }

        /** Makes all as in a new pool. */
        void clear() {
            taskCount = 0;
            workerCount = 0;
            changeWorkerCount(1);
            common.clear();
            Arrays.fill(promises, NOT_KEPT);
            way = FREE;
            theft = NEXT_THEFT;
            clock = 0;
        }

        void copyFrom(Pool other) {
            taskCount = other.taskCount;
            for (int i = 0; i < MOST_TASKS; i++) {
                tasks[i].copyFrom(other.tasks[i]);
            }
            workerCount = other.workerCount;
            for (int i = 0; i < MOST_WORKERS; i++) {
                workers[i].copyFrom(other.workers[i]);
            }
            common.copyFrom(other.common);
            for (int i = 0; i < PROMISES; i++) {
                promises[i] = other.promises[i];
            }
            way = other.way;
            theft = other.theft;
            clock = other.clock;
        }

        // ---- looked up: a blank one outside the numbers, so that no caller meets a missing one

        Task taskAt(int number) {
            return number >= 0 && number < MOST_TASKS ? tasks[number] : blankTask;
        }

        Worker workerAt(int number) {
            return number >= 0 && number < MOST_WORKERS ? workers[number] : blankWorker;
        }

        Row rowOf(int worker) {
            return worker == COMMON ? common : workerAt(worker).row;
        }

        int promiseAt(int promise) {
            return promise >= 0 && promise < PROMISES ? promises[promise] : NOT_KEPT;
        }

        // ---- asked

        boolean hasTaskOf(int job) {
            for (int t = 0; t < taskCount; t++) {
                if (taskAt(t).job == job) {
                    return true;
                }
            }
            return false;
        }

        boolean hasTaskIn(int state) {
            for (int t = 0; t < taskCount; t++) {
                if (taskAt(t).state == state) {
                    return true;
                }
            }
            return false;
        }

        boolean hasStackedTask() {
            for (int w = 0; w < workerCount; w++) {
                if (workerAt(w).stack.size > 0) {
                    return true;
                }
            }
            return false;
        }

        /** Whether a task would miss its worker, if there were only so many. */
        boolean needsWorkerFrom(int count) {
            for (int w = count; w < workerCount; w++) {
                Worker worker = workerAt(w);
                if (worker.row.size > 0 || worker.stack.size > 0) {
                    return true;
                }
            }
            for (int t = 0; t < taskCount; t++) {
                Task task = taskAt(t);
                if (task.isBlocked() && task.blockedOn >= count) {
                    return true;
                }
            }
            return false;
        }

        int countUnfinished() {
            int count = 0;
            for (int t = 0; t < taskCount; t++) {
                if (!taskAt(t).isOver()) {
                    count++;
                }
            }
            return count;
        }

        int sumWork(int number) {
            int family = 1 << number;
            int sum = taskAt(number).ranInAll;
            // Parents come before their children, so that one way through finds them all.
            for (int t = number + 1; t < taskCount; t++) {
                Task task = taskAt(t);
                if (isIn(family, task.parent)) {
                    family |= 1 << t;
                    sum += task.ranInAll;
                }
            }
            return sum;
        }

        boolean isHalted() {
            if (countUnfinished() == 0) {
                return false;
            }
            // If none of them would do anything now, none changes what another one meets in the tick.
            for (int w = 0; w < workerCount; w++) {
                if (wouldAct(w)) {
                    return false;
                }
            }
            return true;
        }

        private boolean wouldAct(int w) {
            Worker worker = workerAt(w);
            if (wantsTask(worker)) {
                return sourceFor(w) != NOWHERE;
            }
            return !taskAt(worker.stack.last()).isBlocked();
        }

        private static boolean isIn(int set, int number) {
            return number >= 0 && number < MOST_TASKS && (set >> number & 1) == 1;
        }

        // ---- changed from outside

        void changeWorkerCount(int count) {
            for (int w = workerCount; w < count; w++) {
                workerAt(w).begin();
            }
            workerCount = count;
        }

        int askFor(int job) {
            Task task = newTask(job, -1);
            common.append(task.number);
            return task.number;
        }

        boolean keepPromise(int promise, int number) {
            if (promise < 0 || promise >= PROMISES || promises[promise] != NOT_KEPT) {
                return false;
            }
            promises[promise] = number;
            for (int t = 0; t < taskCount; t++) {
                Task task = taskAt(t);
                Script script = book.scriptAt(task.job);
                if (task.state == Task.AWAITING && script.numberAt(task.step) == promise) {
                    free(task);
                }
            }
            return true;
        }

        /** Cancels the children of a task, theirs, and so on, but nothing below one that is over; answers how many. */
        int cancelBelow(Task root) {
            int family = 1 << root.number;
            for (int t = root.number + 1; t < taskCount; t++) {
                Task task = taskAt(t);
                if (isIn(family, task.parent) && !task.isOver()) {
                    family |= 1 << t;
                }
            }
            int count = 0;
            // Children have greater numbers than their parents, so that this way each goes before its parent.
            for (int t = taskCount - 1; t > root.number; t--) {
                if (isIn(family, t)) {
                    end(taskAt(t), Task.CANCELLED);
                    count++;
                }
            }
            return count;
        }

        // ---- a tick

        void passTick() {
            for (int w = 0; w < workerCount; w++) {
                workerAt(w).noteRan(clock, -1);
                boolean goesOn = true;
                for (int i = 0; i < MOST_ACTS && goesOn; i++) {
                    goesOn = act(w);
                }
            }
            clock++;
        }

        /** Does the next thing in a worker's turn; answers whether the turn goes on. */
        private boolean act(int w) {
            Worker worker = workerAt(w);
            if (wantsTask(worker)) {
                return take(w, worker);
            }
            Task top = taskAt(worker.stack.last());
            if (top.isBlocked()) {
                worker.idleTicks++;
                return false;
            }
            return goOn(w, top);
        }

        private boolean wantsTask(Worker worker) {
            return worker.stack.size == 0 || way == HELP && taskAt(worker.stack.last()).isBlocked();
        }

        private boolean take(int w, Worker worker) {
            int source = sourceFor(w);
            if (source == NOWHERE) {
                worker.idleTicks++;
                return false;
            }
            Row row = rowOf(source);
            int number = source == w ? row.last() : row.at(0);
            row.remove(number);
            worker.stack.append(number);
            taskAt(number).state = Task.RUNNING;
            if (source == w || source == COMMON) {
                return true;
            }
            worker.stolen++;
            return false;
        }

        /** Whose row a worker would take from: its own one, the common one, that of one it steals from. */
        private int sourceFor(int w) {
            if (rowOf(w).size > 0) {
                return w;
            }
            if (common.size > 0) {
                return COMMON;
            }
            if (theft == NEXT_THEFT) {
                return nextWithTasks(w);
            }
            return theft == MOST_THEFT ? firstWithMostTasks() : NOWHERE;
        }

        private int nextWithTasks(int w) {
            for (int i = 1; i < workerCount; i++) {
                int next = w + i < workerCount ? w + i : w + i - workerCount;
                if (rowOf(next).size > 0) {
                    return next;
                }
            }
            return NOWHERE;
        }

        private int firstWithMostTasks() {
            int found = NOWHERE;
            int most = 0;
            for (int w = 0; w < workerCount; w++) {
                int size = rowOf(w).size;
                if (size > most) {
                    most = size;
                    found = w;
                }
            }
            return found;
        }

        /** Takes a task through one step; answers whether the worker's turn goes on. */
        private boolean goOn(int w, Task task) {
            Script script = book.scriptAt(task.job);
            int code = task.step < script.size ? script.codeAt(task.step) : -1;
            int n = script.numberAt(task.step);
            boolean behind = true;
            switch (code) {
                case Script.WORK:
                    behind = work(w, task, n);
                    break;
                case Script.FORK:
                    fork(w, task, n);
                    break;
                case Script.JOIN:
                case Script.JOIN_ALL:
                case Script.TRY:
                    behind = join(w, task, code);
                    break;
                case Script.ADD:
                    task.addValue(n);
                    break;
                case Script.FAIL:
                    end(task, Task.FAILED);
                    behind = false;
                    break;
                case Script.STOP:
                    cancelBelow(task);
                    break;
                case Script.AWAIT:
                    behind = await(w, task, n);
                    break;
                case Script.KEEP:
                    keepPromise(n, task.value);
                    break;
                default:
                    break;
            }
            if (behind) {
                advance(task, script.size);
            }
            return code != Script.WORK;
        }

        private void advance(Task task, int size) {
            task.step = Math.min(task.step + 1, size);
            task.ranForStep = 0;
            if (task.step == size) {
                end(task, Task.DONE);
            }
        }

        /** Runs a task for this tick; answers whether the step is behind it. */
        private boolean work(int w, Task task, int n) {
            Worker worker = workerAt(w);
            worker.ranTicks++;
            worker.noteRan(clock, task.number);
            task.ranInAll++;
            task.ranForStep++;
            return task.ranForStep >= n;
        }

        private void fork(int w, Task parent, int job) {
            if (taskCount >= MOST_TASKS) {
                return;
            }
            Task child = newTask(job, parent.number);
            parent.children |= 1 << child.number;
            rowOf(w).append(child.number);
        }

        private Task newTask(int job, int parent) {
            Task task = taskAt(taskCount);
            taskCount++;
            task.begin(job, parent);
            return task;
        }

        /** Joins the last child, or all; answers whether the step is behind the task. */
        private boolean join(int w, Task task, int code) {
            int most = code == Script.JOIN_ALL ? MOST_TASKS : 1;
            for (int i = 0; i < most && task.children != 0; i++) {
                Task child = taskAt(task.lastChild());
                if (!child.isOver()) {
                    block(w, task, Task.JOINING);
                    return false;
                }
                task.children &= ~(1 << child.number);
                if (child.state == Task.DONE) {
                    task.addValue(child.value);
                } else if (child.state == Task.FAILED && code != Script.TRY) {
                    end(task, Task.FAILED);
                    return false;
                }
            }
            return true;
        }

        /** Adds the number of a promise, if it is kept; answers whether the step is behind the task. */
        private boolean await(int w, Task task, int promise) {
            int number = promiseAt(promise);
            if (number == NOT_KEPT) {
                block(w, task, Task.AWAITING);
                return false;
            }
            task.addValue(number);
            return true;
        }

        private void block(int w, Task task, int state) {
            task.state = state;
            task.blockedOn = w;
            if (way == FREE) {
                workerAt(w).stack.remove(task.number);
            }
        }

        private void free(Task task) {
            for (int w = 0; w < workerCount; w++) {
                if (workerAt(w).stack.has(task.number)) {
                    task.state = Task.RUNNING;
                    return;
                }
            }
            task.state = Task.READY;
            workerAt(task.blockedOn).row.append(task.number);
        }

        /** Lets a task be over, takes it from where it is, and frees its parent if that waits for it. */
        void end(Task task, int state) {
            task.state = state;
            task.overAt = clock;
            common.remove(task.number);
            for (int w = 0; w < workerCount; w++) {
                Worker worker = workerAt(w);
                worker.row.remove(task.number);
                worker.stack.remove(task.number);
            }
            Task parent = taskAt(task.parent);
            if (parent.state == Task.JOINING && parent.lastChild() == task.number) {
                free(parent);
            }
        }
    }
}
