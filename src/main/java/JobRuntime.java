import java.util.NoSuchElementException;

/**
 * Coroutines as jobs in a tree, run in turn on a virtual clock.
 *
 * <p>The words in capitals are those of the document's section "Terms".
 */
public final class JobRuntime {
    private static final int PROGRAMS = 10;
    private static final int ACTIONS_OF_A_PROGRAM = 8;
    private static final int JOBS = 24;
    private static final int FRAMES_OF_A_JOB = 6;
    private static final int SLOTS = 3;
    private static final int NOTES_KEPT = 60;
    private static final int ACTIONS_OF_A_RESUMING = 60;
    private static final int LONGEST_TIME = 50;
    private static final int LARGEST_THROWN = 89;
    private static final int LARGEST_RUN = 100;

    /** What a JOB is resumed with, what an ACTION leads to, a CAUSE: a failure is its own number. */
    private static final int CANCELLED = 0;
    private static final int NO_CAUSE = -1;
    private static final int GO = -1;
    private static final int WAIT = -2;
    private static final int NOTHING_KEPT = -1;

    private static final int TOO_MANY_JOBS = 96;
    private static final int TOO_MANY_FRAMES = 97;
    private static final int TIME_IS_UP = 98;

    private static final int CAUGHT = 100;
    private static final int UNCAUGHT = 200;

    private static final int NOT_WAITING = -1;
    /** Later than all times. */
    private static final int NEVER = 0x7fffffff;

    /** Far above the FRAMES that can go, and the steps that can be made, one after another. */
    private static final int AMPLE = 1000;

    private final Program[] programs;
    private final Job[] jobs;
    private final ReadyRow ready;
    private final int[] notes;
    private int begunJobs;
    private int finishedJobs;
    private int intsNoted;
    private int clock;
    private int resumings;
    private int actionsDone;
    private int timersBegun;

    public JobRuntime() {
        programs = new Program[PROGRAMS];
        for (int p = 0; p < PROGRAMS; p++) {
            programs[p] = new Program();
        }
        jobs = new Job[JOBS];
        ready = new ReadyRow();
        notes = new int[NOTES_KEPT];
    }

    // ---- The face

    public int act(int p, int action, int a, int b)
            throws IllegalArgumentException, IllegalStateException {
        if (!isProgram(p) || !Action.isOne(action, a, b)) {
            throw new IllegalArgumentException();
        }
        Program program = programs[p];
        if (program.length >= ACTIONS_OF_A_PROGRAM) {
            throw new IllegalStateException();
        }
        program.add(action, a, b);
        return program.length;
    }

    public int start(int p) throws IllegalArgumentException, IllegalStateException {
        if (!isProgram(p)) {
            throw new IllegalArgumentException();
        }
        if (begunJobs >= JOBS) {
            throw new IllegalStateException();
        }
        return begin(null, Job.ROOT, programs[p]).number;
    }

    public int cancel(int job) throws IllegalArgumentException {
        Job asked = jobOfNumber(job);
        if (asked.finished || asked.cause != NO_CAUSE) {
            return 0;
        }
        give(asked, CANCELLED, 0);
        return 1;
    }

    public int run(int n) throws IllegalArgumentException {
        if (!isWithin(n, 0, LARGEST_RUN)) {
            throw new IllegalArgumentException();
        }
        int done = 0;
        for (int step = 0; step < AMPLE && done < n; step++) {
            Job first = ready.takeFirst();
            if (first != null) {
                resume(first);
                done++;
            } else if (!letTimePass()) {
                break;
            }
        }
        return done;
    }

    public int result(int job)
            throws IllegalArgumentException, IllegalStateException, ArithmeticException, NoSuchElementException {
        Job asked = jobOfNumber(job);
        if (!asked.finished) {
            throw new IllegalStateException();
        }
        if (asked.cause > CANCELLED) {
            throw new ArithmeticException();
        }
        if (asked.cause == CANCELLED) {
            throw new NoSuchElementException();
        }
        return asked.sum;
    }

    public int state(int job) throws IllegalArgumentException {
        Job asked = jobOfNumber(job);
        int ended = asked.depth == 0 ? 8 : 0;
        if (!asked.finished) {
            return ended + (asked.cause == NO_CAUSE ? 4 : 5);
        }
        if (asked.cause == NO_CAUSE) {
            return ended;
        }
        return ended + (asked.cause == CANCELLED ? 1 : 2);
    }

    public int cause(int job) throws IllegalArgumentException, NoSuchElementException {
        Job asked = jobOfNumber(job);
        if (asked.cause == NO_CAUSE) {
            throw new NoSuchElementException();
        }
        return asked.cause;
    }

    public int about(int job, int what) throws IllegalArgumentException {
        Job asked = jobOfNumber(job);
        switch (what) {
            case 0:
                return numberOf(asked.parent);
            case 1:
                return asked.sort;
            case 2:
                return asked.suppressed;
            case 3:
                return asked.sum;
            case 4:
                return asked.depth;
            case 5:
            case 6:
            case 7:
                return numberOf(asked.slots[what - 5]);
            case 8:
                return asked.openChildren;
            default:
                throw new IllegalArgumentException();
        }
    }

    public int noted(int k) throws NoSuchElementException {
        if (k < 0 || k >= NOTES_KEPT || k >= intsNoted) {
            throw new NoSuchElementException();
        }
        return notes[k];
    }

    public int count(int what) {
        switch (what) {
            case 0:
                return begunJobs;
            case 1:
                return finishedJobs;
            case 2:
                return intsNoted;
            case 3:
                return clock;
            case 4:
                return ready.size;
            case 5:
                return resumings;
            case 6:
                return runningTimers();
            case 7:
                return actionsDone;
            default:
                return -1;
        }
    }

    // ---- Looking at numbers

    private static boolean isWithin(int n, int least, int most) {
        return n >= least && n <= most;
    }

    private static boolean isProgram(int p) {
        return isWithin(p, 0, PROGRAMS - 1);
    }

    private static boolean isSlot(int slot) {
        return isWithin(slot, 0, SLOTS - 1);
    }

    private static int numberOf(Job job) {
        return job == null ? -1 : job.number;
    }

    private Job jobOfNumber(int number) {
        if (number < 0 || number >= begunJobs) {
            throw new IllegalArgumentException();
        }
        return jobs[number];
    }

    // ---- Beginning, resuming, finishing

    /** The caller has looked whether there is room for one JOB more. */
    private Job begin(Job parent, int sort, Program program) {
        Job job = new Job(begunJobs, parent, sort, program);
        jobs[begunJobs] = job;
        begunJobs++;
        if (parent != null) {
            parent.openChildren++;
        }
        makeReady(job, GO);
        return job;
    }

    private void makeReady(Job job, int resumedWith) {
        job.waitsIn = NOT_WAITING;
        job.awaited = null;
        job.delay.stop();
        job.resumedWith = resumedWith;
        ready.add(job);
    }

    private void note(int n) {
        if (intsNoted < NOTES_KEPT) {
            notes[intsNoted] = n;
        }
        intsNoted++;
    }

    private void resume(Job job) {
        resumings++;
        int outcome = job.resumedWith;
        for (int done = 0; done <= ACTIONS_OF_A_RESUMING; done++) {
            if (outcome >= CANCELLED) {
                throwAtLastFrame(job, outcome);
            }
            leaveFramesAtTheirEnd(job);
            if (job.depth == 0) {
                finishUpwards(job);
                return;
            }
            // Only here, since FRAMES go and the BODY ends without another ACTION.
            if (done == ACTIONS_OF_A_RESUMING) {
                makeReady(job, GO);
                return;
            }
            outcome = perform(job, job.lastFrame());
            if (outcome == WAIT) {
                return;
            }
        }
    }

    /** Afterwards the last FRAME stands at an ACTION, or there is none left. */
    private void leaveFramesAtTheirEnd(Job job) {
        for (int gone = 0; gone < AMPLE && job.depth > 0; gone++) {
            Frame last = job.lastFrame();
            if (last.position < last.program.length) {
                return;
            }
            job.depth--;
            if (last.sort == Frame.AFTER) {
                job.pushFrame(Frame.LAST, last.second, last.second, NOTHING_KEPT);
            } else if (last.sort == Frame.LAST && last.kept != NOTHING_KEPT) {
                throwAtLastFrame(job, last.kept);
            }
        }
    }

    private void throwAtLastFrame(Job job, int x) {
        for (int level = job.depth - 1; level >= 0; level--) {
            Frame last = job.frames[level];
            job.depth = level;
            if (last.sort == Frame.BODY) {
                give(job, x, 0);
                return;
            }
            if (last.sort == Frame.TRY && x != CANCELLED) {
                note(CAUGHT + x);
                job.pushFrame(Frame.HANDLER, last.second, last.second, NOTHING_KEPT);
                return;
            }
            if (last.sort == Frame.AFTER) {
                job.pushFrame(Frame.LAST, last.second, last.second, x);
                return;
            }
        }
    }

    private void give(Job job, int x, int level) {
        if (job.finished || level >= JOBS) {
            return;
        }
        if (job.cause != NO_CAUSE) {
            if (x != CANCELLED) {
                job.suppressed++;
            }
            return;
        }
        job.cause = x;
        for (int child = job.number + 1; child < begunJobs; child++) {
            if (jobs[child].parent == job) {
                give(jobs[child], CANCELLED, level + 1);
            }
        }
        if (job.canBeWoken()) {
            makeReady(job, CANCELLED);
        }
    }

    private void finishUpwards(Job job) {
        Job looked = job;
        for (int level = 0; level < JOBS; level++) {
            if (looked == null || !looked.isAtItsEnd()) {
                return;
            }
            finish(looked);
            passFailureOn(looked, looked.parent);
            looked = looked.parent;
        }
    }

    private void finish(Job job) {
        job.finished = true;
        job.limit.stop();
        finishedJobs++;
        Job parent = job.parent;
        if (parent != null) {
            parent.openChildren--;
            // SLOTS hold a JOB's own children, so that nobody but the parent can wait for it.
            if (parent.awaited == job) {
                makeReady(parent, parent.waitsIn == Action.JOIN ? GO : takeOutcome(parent, job));
            }
        }
    }

    /** A SCOPE, SUPERVISOR or LIMIT has told its failure by waking its parent. */
    private void passFailureOn(Job job, Job parent) {
        if (job.cause <= CANCELLED) {
            return;
        }
        if (parent == null || (job.sort == Job.CHILD && parent.sort == Job.SUPERVISOR)) {
            note(UNCAUGHT + job.cause);
        } else if (job.sort == Job.CHILD) {
            give(parent, job.cause, 0);
        }
    }

    /** The value of a COMPLETED JOB comes to the SUM, the CAUSE of another is to be thrown. */
    private static int takeOutcome(Job waiting, Job finished) {
        if (finished.cause == NO_CAUSE) {
            waiting.sum += finished.sum;
            return GO;
        }
        return finished.cause;
    }

    // ---- ACTIONS: each answers GO, WAIT, or what is to be thrown

    private int perform(Job job, Frame frame) {
        Program program = frame.program;
        int at = frame.position;
        int kind = program.kinds[at];
        int a = program.as[at];
        int b = program.bs[at];
        frame.position++;
        actionsDone++;
        if (Action.canWait(kind) && job.cause != NO_CAUSE && !job.isShielded()) {
            return CANCELLED;
        }
        switch (kind) {
            case Action.NOTE:
                note(a);
                return GO;
            case Action.DELAY:
                job.waitsIn = Action.DELAY;
                beginTimer(job.delay, a);
                return WAIT;
            case Action.YIELD:
                makeReady(job, GO);
                return WAIT;
            case Action.LAUNCH:
                return launch(job, programs[a], b);
            case Action.AWAIT:
            case Action.JOIN:
                return waitForSlot(job, kind, job.slots[a]);
            case Action.CANCEL:
                cancelFrom(job, a);
                return GO;
            case Action.THROW:
                return a;
            case Action.SCOPE:
                return waitForNew(job, kind, Job.SCOPE, programs[a], NEVER);
            case Action.SUPERVISOR:
                return waitForNew(job, kind, Job.SUPERVISOR, programs[a], NEVER);
            case Action.LIMIT:
                return waitForNew(job, kind, Job.LIMIT, programs[b], a);
            case Action.TRY:
                return enterFrame(job, Frame.TRY, programs[a], programs[b]);
            case Action.AFTER:
                return enterFrame(job, Frame.AFTER, programs[a], programs[b]);
            case Action.SHIELD:
                return enterFrame(job, Frame.SHIELD, programs[a], programs[a]);
            case Action.RETURN:
                job.sum += a;
                frame.position = program.length;
                return GO;
            case Action.ASK:
                note(job.cause == NO_CAUSE ? 1 : 0);
                return GO;
            default:
                return GO;
        }
    }

    private int launch(Job job, Program program, int slot) {
        if (begunJobs >= JOBS) {
            return TOO_MANY_JOBS;
        }
        job.slots[slot] = begin(job, Job.CHILD, program);
        return GO;
    }

    private static int waitForSlot(Job job, int kind, Job other) {
        if (other == null) {
            return GO;
        }
        if (!other.finished) {
            job.waitsIn = kind;
            job.awaited = other;
            return WAIT;
        }
        return kind == Action.JOIN ? GO : takeOutcome(job, other);
    }

    private int waitForNew(Job job, int kind, int sort, Program program, int time) {
        if (begunJobs >= JOBS) {
            return TOO_MANY_JOBS;
        }
        Job inner = begin(job, sort, program);
        if (time != NEVER) {
            beginTimer(inner.limit, time);
        }
        job.waitsIn = kind;
        job.awaited = inner;
        return WAIT;
    }

    private void cancelFrom(Job job, int slot) {
        Job other = slot < 0 ? job : job.slots[slot];
        if (other != null) {
            give(other, CANCELLED, 0);
        }
    }

    private static int enterFrame(Job job, int sort, Program program, Program second) {
        if (job.depth >= FRAMES_OF_A_JOB) {
            return TOO_MANY_FRAMES;
        }
        job.pushFrame(sort, program, second, NOTHING_KEPT);
        return GO;
    }

    // ---- THE CLOCK

    private void beginTimer(Timer timer, int time) {
        timer.due = clock + time;
        timer.turn = timersBegun;
        timersBegun++;
    }

    /** Answers whether a timer was there to go on to. */
    private boolean letTimePass() {
        int next = nextDueJob();
        if (next < 0) {
            return false;
        }
        clock = jobs[next].nextTimer().due;
        for (int come = 0; come < AMPLE; come++) {
            if (next < 0 || jobs[next].nextTimer().due != clock) {
                break;
            }
            comeDue(jobs[next]);
            // Looked for anew, since a LIMIT makes JOBS leave their DELAYS of the same time.
            next = nextDueJob();
        }
        return true;
    }

    /** The number of the JOB with the timer that comes next, -1 if none runs. */
    private int nextDueJob() {
        int next = -1;
        for (int i = 0; i < begunJobs; i++) {
            Timer timer = jobs[i].nextTimer();
            if (timer.isRunning() && (next < 0 || timer.comesBefore(jobs[next].nextTimer()))) {
                next = i;
            }
        }
        return next;
    }

    private void comeDue(Job job) {
        if (job.nextTimer() == job.delay) {
            makeReady(job, GO);
            return;
        }
        job.limit.stop();
        // A CAUSE that is there already must not count this as one more SUPPRESSED.
        if (job.cause == NO_CAUSE) {
            give(job, TIME_IS_UP, 0);
        }
    }

    private int runningTimers() {
        int running = 0;
        for (int i = 0; i < begunJobs; i++) {
            running += jobs[i].delay.isRunning() ? 1 : 0;
            running += jobs[i].limit.isRunning() ? 1 : 0;
        }
        return running;
    }

    // ---- The parts

    /** The ACTIONS by number, and which a, b they take. */
    private static final class Action {
        static final int NOTE = 0;
        static final int DELAY = 1;
        static final int YIELD = 2;
        static final int LAUNCH = 3;
        static final int AWAIT = 4;
        static final int JOIN = 5;
        static final int CANCEL = 6;
        static final int THROW = 7;
        static final int SCOPE = 8;
        static final int SUPERVISOR = 9;
        static final int LIMIT = 10;
        static final int TRY = 11;
        static final int AFTER = 12;
        static final int SHIELD = 13;
        static final int RETURN = 14;
        static final int ASK = 15;

        static boolean isOne(int kind, int a, int b) {
            switch (kind) {
                case DELAY:
                    return isWithin(a, 1, LONGEST_TIME);
                case LAUNCH:
                    return isProgram(a) && isSlot(b);
                case AWAIT:
                case JOIN:
                    return isSlot(a);
                case CANCEL:
                    return a == -1 || isSlot(a);
                case THROW:
                    return isWithin(a, 1, LARGEST_THROWN);
                case SCOPE:
                case SUPERVISOR:
                case SHIELD:
                    return isProgram(a);
                case LIMIT:
                    return isWithin(a, 1, LONGEST_TIME) && isProgram(b);
                case TRY:
                case AFTER:
                    return isProgram(a) && isProgram(b);
                default:
                    return isWithin(kind, NOTE, ASK);
            }
        }

        /** Those in which a JOB that has a CAUSE and no SHIELD is stopped. */
        static boolean canWait(int kind) {
            switch (kind) {
                case DELAY:
                case YIELD:
                case AWAIT:
                case JOIN:
                case SCOPE:
                case SUPERVISOR:
                case LIMIT:
                    return true;
                default:
                    return false;
            }
        }
    }

    private static final class Program {
        final int[] kinds;
        final int[] as;
        final int[] bs;
        int length;

        Program() {
            kinds = new int[ACTIONS_OF_A_PROGRAM];
            as = new int[ACTIONS_OF_A_PROGRAM];
            bs = new int[ACTIONS_OF_A_PROGRAM];
        }

        void add(int kind, int a, int b) {
            if (length < ACTIONS_OF_A_PROGRAM) {
                kinds[length] = kind;
                as[length] = a;
                bs[length] = b;
                length++;
            }
        }
    }

    private static final class Frame {
        static final int BODY = 0;
        static final int TRY = 1;
        static final int AFTER = 2;
        static final int LAST = 3;
        static final int SHIELD = 4;
        static final int HANDLER = 5;

        int sort;
        Program program;
        int position;
        /** What a TRY does else, an AFTER at last; of no use to the other sorts. */
        Program second;
        int kept;

        Frame(Program program) {
            this.program = program;
            this.second = program;
            this.kept = NOTHING_KEPT;
        }
    }

    /** A DELAY of a JOB, or the LIMIT of one. */
    private static final class Timer {
        int due;
        /** Timers that are due at the same time come in the order of their turns. */
        int turn;

        Timer() {
            due = NEVER;
        }

        boolean isRunning() {
            return due != NEVER;
        }

        void stop() {
            due = NEVER;
        }

        boolean comesBefore(Timer other) {
            return due < other.due || (due == other.due && turn < other.turn);
        }
    }

    private static final class Job {
        static final int ROOT = 0;
        static final int CHILD = 1;
        static final int SCOPE = 2;
        static final int SUPERVISOR = 3;
        static final int LIMIT = 4;

        final int number;
        final Job parent;
        final int sort;
        final Job[] slots;
        /** Made once and used again; the first {@code depth} of them are there. */
        final Frame[] frames;
        final Timer delay;
        final Timer limit;
        int depth;
        int sum;
        int cause;
        int suppressed;
        int openChildren;
        boolean finished;
        /** The ACTION in which it waits, but for YIELD: then it is READY. */
        int waitsIn;
        Job awaited;
        int resumedWith;

        Job(int number, Job parent, int sort, Program body) {
            this.number = number;
            this.parent = parent;
            this.sort = sort;
            slots = new Job[SLOTS];
            frames = new Frame[FRAMES_OF_A_JOB];
            for (int i = 0; i < FRAMES_OF_A_JOB; i++) {
                frames[i] = new Frame(body);
            }
            delay = new Timer();
            limit = new Timer();
            depth = 1;
            cause = NO_CAUSE;
            waitsIn = NOT_WAITING;
            resumedWith = GO;
        }

        /** Asked only while there is a FRAME. */
        Frame lastFrame() {
            return frames[depth > 0 ? depth - 1 : 0];
        }

        void pushFrame(int sort, Program program, Program second, int kept) {
            if (depth < FRAMES_OF_A_JOB) {
                Frame frame = frames[depth];
                frame.sort = sort;
                frame.program = program;
                frame.position = 0;
                frame.second = second;
                frame.kept = kept;
                depth++;
            }
        }

        boolean isShielded() {
            for (int i = 0; i < depth; i++) {
                if (frames[i].sort == Frame.SHIELD) {
                    return true;
                }
            }
            return false;
        }

        boolean isAtItsEnd() {
            return !finished && depth == 0 && openChildren == 0;
        }

        boolean canBeWoken() {
            boolean waits = waitsIn == Action.DELAY || waitsIn == Action.AWAIT || waitsIn == Action.JOIN;
            return waits && !isShielded();
        }

        Timer nextTimer() {
            return limit.comesBefore(delay) ? limit : delay;
        }
    }

    /** A ring: a JOB stands in the READY row at most once, so that there is room for all. */
    private static final class ReadyRow {
        final Job[] row;
        int first;
        int size;

        ReadyRow() {
            row = new Job[JOBS];
        }

        void add(Job job) {
            if (size < JOBS) {
                row[(first + size) % JOBS] = job;
                size++;
            }
        }

        Job takeFirst() {
            if (size == 0) {
                return null;
            }
            Job job = row[first];
            first = (first + 1) % JOBS;
            size--;
            return job;
        }
    }
}
