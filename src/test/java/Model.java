import java.util.ArrayDeque;
import java.util.ArrayList;
import java.util.Deque;
import java.util.List;
import java.util.NoSuchElementException;

/**
 * The document read once more, in another way than the program: rows that grow, signals as
 * objects, waiting as a list at the one who is waited for, timers in one row that keeps all.
 */
final class Model implements Face {
    private enum Sort { ROOT, CHILD, SCOPE, SUPERVISOR, LIMIT }

    private enum Kind { BODY, TRY, AFTER, LAST, SHIELD, HANDLER }

    private static final class Frame {
        Kind kind;
        int program;
        int next;
        int other;
        Integer kept;

        Frame(Kind kind, int program, int other, Integer kept) {
            this.kind = kind;
            this.program = program;
            this.other = other;
            this.kept = kept;
        }
    }

    private static final class Timer {
        int due;
        Job job;
        boolean limit;
        boolean over;
    }

    private static final class Job {
        int id;
        Job parent;
        Sort sort;
        int sum;
        Job[] slots = new Job[3];
        Integer cause;
        int suppressed;
        Deque<Frame> frames = new ArrayDeque<>();
        boolean bodyEnded;
        boolean finished;
        Timer sleeping;
        Job waitsFor;
        boolean joins;
        boolean inScope;
        List<Job> waiters = new ArrayList<>();
        List<Job> children = new ArrayList<>();
        Integer signal;

        boolean shielded() {
            return frames.stream().anyMatch(f -> f.kind == Kind.SHIELD);
        }

        long open() {
            return children.stream().filter(c -> !c.finished).count();
        }
    }

    private final List<List<int[]>> programs = new ArrayList<>();
    private final List<Job> jobs = new ArrayList<>();
    private final Deque<Job> ready = new ArrayDeque<>();
    private final List<Timer> timers = new ArrayList<>();
    private final List<Integer> notes = new ArrayList<>();
    private int clock;
    private int resumings;
    private int actions;
    private boolean suspended;

    Model() {
        for (int p = 0; p < 10; p++) {
            programs.add(new ArrayList<>());
        }
    }

    private static void need(boolean holds) {
        if (!holds) {
            throw new IllegalArgumentException();
        }
    }

    private static boolean in(int n, int low, int high) {
        return low <= n && n <= high;
    }

    @Override public int act(int p, int action, int a, int b) {
        need(in(p, 0, 9) && in(action, 0, 15));
        if (List.of(3, 8, 9, 11, 12, 13).contains(action)) {
            need(in(a, 0, 9));
        }
        if (List.of(10, 11, 12).contains(action)) {
            need(in(b, 0, 9));
        }
        need(action != 3 || in(b, 0, 2));
        need(action != 4 && action != 5 || in(a, 0, 2));
        need(action != 6 || in(a, -1, 2));
        need(action != 1 && action != 10 || in(a, 1, 50));
        need(action != 7 || in(a, 1, 89));
        if (programs.get(p).size() == 8) {
            throw new IllegalStateException();
        }
        programs.get(p).add(new int[] {action, a, b});
        return programs.get(p).size();
    }

    @Override public int start(int p) {
        need(in(p, 0, 9));
        if (jobs.size() == 24) {
            throw new IllegalStateException();
        }
        return create(null, Sort.ROOT, p).id;
    }

    private Job create(Job parent, Sort sort, int program) {
        Job job = new Job();
        job.id = jobs.size();
        job.parent = parent;
        job.sort = sort;
        job.frames.push(new Frame(Kind.BODY, program, -1, null));
        jobs.add(job);
        if (parent != null) {
            parent.children.add(job);
        }
        ready.addLast(job);
        return job;
    }

    private Job find(int job) {
        need(in(job, 0, jobs.size() - 1));
        return jobs.get(job);
    }

    @Override public int cancel(int job) {
        Job asked = find(job);
        boolean had = asked.cause != null;
        give(asked, 0);
        return !had && asked.cause != null ? 1 : 0;
    }

    private void wake(Job job, Integer signal) {
        if (job.sleeping != null) {
            job.sleeping.over = true;
            job.sleeping = null;
        }
        if (job.waitsFor != null) {
            job.waitsFor.waiters.remove(job);
            job.waitsFor = null;
        }
        job.inScope = false;
        job.signal = signal;
        ready.addLast(job);
    }

    private void give(Job job, int x) {
        if (job.finished) {
            return;
        }
        if (job.cause != null) {
            job.suppressed += x > 0 ? 1 : 0;
            return;
        }
        job.cause = x;
        for (Job child : job.children) {
            give(child, 0);
        }
        boolean waits = job.sleeping != null || job.waitsFor != null && !job.inScope;
        if (waits && !job.shielded()) {
            wake(job, 0);
        }
    }

    @Override public int run(int n) {
        need(in(n, 0, 100));
        int done = 0;
        while (done < n) {
            if (!ready.isEmpty()) {
                resume(ready.removeFirst());
                done++;
            } else if (!tick()) {
                break;
            }
        }
        return done;
    }

    private boolean live(Timer timer) {
        return !timer.over && !(timer.limit && timer.job.finished);
    }

    private boolean tick() {
        int earliest = timers.stream().filter(this::live).mapToInt(t -> t.due).min().orElse(-1);
        if (earliest < 0) {
            return false;
        }
        clock = earliest;
        for (Timer timer : timers) {
            if (timer.due == clock && live(timer)) {
                timer.over = true;
                if (!timer.limit) {
                    wake(timer.job, null);
                } else if (timer.job.cause == null) {
                    give(timer.job, 98);
                }
            }
        }
        return true;
    }

    private Timer timer(Job job, int time, boolean limit) {
        Timer timer = new Timer();
        timer.due = clock + time;
        timer.job = job;
        timer.limit = limit;
        timers.add(timer);
        return timer;
    }

    private void resume(Job job) {
        resumings++;
        Integer signal = job.signal;
        job.signal = null;
        suspended = false;
        if (signal != null) {
            hurl(job, signal);
        }
        int before = actions;
        while (!suspended && !job.bodyEnded) {
            Frame top = job.frames.peek();
            List<int[]> row = programs.get(top.program);
            if (top.next >= row.size()) {
                pop(job);
            } else if (actions - before == 60) {
                ready.addLast(job);
                return;
            } else {
                actions++;
                int[] action = row.get(top.next++);
                once(job, top, action[0], action[1], action[2]);
            }
        }
    }

    private void pop(Job job) {
        Frame top = job.frames.pop();
        if (top.kind == Kind.BODY) {
            bodyEnds(job);
        } else if (top.kind == Kind.AFTER) {
            job.frames.push(new Frame(Kind.LAST, top.other, -1, null));
        } else if (top.kind == Kind.LAST && top.kept != null) {
            hurl(job, top.kept);
        }
    }

    private void hurl(Job job, int x) {
        Frame top = job.frames.pop();
        if (top.kind == Kind.BODY) {
            give(job, x);
            bodyEnds(job);
        } else if (top.kind == Kind.AFTER) {
            job.frames.push(new Frame(Kind.LAST, top.other, -1, x));
        } else if (top.kind == Kind.TRY && x > 0) {
            notes.add(100 + x);
            job.frames.push(new Frame(Kind.HANDLER, top.other, -1, null));
        } else {
            hurl(job, x);
        }
    }

    private void bodyEnds(Job job) {
        job.bodyEnded = true;
        look(job);
    }

    private void look(Job job) {
        if (job == null || job.finished || !job.bodyEnded || job.open() > 0) {
            return;
        }
        job.finished = true;
        for (Job waiter : new ArrayList<>(job.waiters)) {
            wake(waiter, waiter.joins ? null : outcome(waiter, job));
        }
        if (job.cause != null && job.cause > 0) {
            if (job.sort == Sort.ROOT || job.sort == Sort.CHILD && job.parent.sort == Sort.SUPERVISOR) {
                notes.add(200 + job.cause);
            } else if (job.sort == Sort.CHILD) {
                give(job.parent, job.cause);
            }
        }
        look(job.parent);
    }

    private static Integer outcome(Job waiter, Job job) {
        if (job.cause == null) {
            waiter.sum += job.sum;
        }
        return job.cause;
    }

    private void waitFor(Job job, Job other, boolean joins, boolean scope) {
        job.waitsFor = other;
        job.joins = joins;
        job.inScope = scope;
        other.waiters.add(job);
        suspended = true;
    }

    private void once(Job job, Frame top, int action, int a, int b) {
        boolean suspends = List.of(1, 2, 4, 5, 8, 9, 10).contains(action);
        if (suspends && job.cause != null && !job.shielded()) {
            hurl(job, 0);
            return;
        }
        if (List.of(3, 8, 9, 10).contains(action) && jobs.size() == 24) {
            hurl(job, 96);
            return;
        }
        if (List.of(11, 12, 13).contains(action) && job.frames.size() == 6) {
            hurl(job, 97);
            return;
        }
        switch (action) {
            case 0 -> notes.add(a);
            case 1 -> {
                job.sleeping = timer(job, a, false);
                suspended = true;
            }
            case 2 -> {
                ready.addLast(job);
                suspended = true;
            }
            case 3 -> job.slots[b] = create(job, Sort.CHILD, a);
            case 4, 5 -> meet(job, job.slots[a], action == 5);
            case 6 -> {
                Job other = a == -1 ? job : job.slots[a];
                if (other != null) {
                    give(other, 0);
                }
            }
            case 7 -> hurl(job, a);
            case 8 -> waitFor(job, create(job, Sort.SCOPE, a), false, true);
            case 9 -> waitFor(job, create(job, Sort.SUPERVISOR, a), false, true);
            case 10 -> {
                Job inner = create(job, Sort.LIMIT, b);
                timer(inner, a, true);
                waitFor(job, inner, false, true);
            }
            case 11 -> job.frames.push(new Frame(Kind.TRY, a, b, null));
            case 12 -> job.frames.push(new Frame(Kind.AFTER, a, b, null));
            case 13 -> job.frames.push(new Frame(Kind.SHIELD, a, -1, null));
            case 14 -> {
                job.sum += a;
                top.next = programs.get(top.program).size();
            }
            default -> notes.add(job.cause == null ? 1 : 0);
        }
    }

    private void meet(Job job, Job other, boolean joins) {
        if (other == null) {
            return;
        }
        if (!other.finished) {
            waitFor(job, other, joins, false);
        } else if (!joins) {
            Integer thrown = outcome(job, other);
            if (thrown != null) {
                hurl(job, thrown);
            }
        }
    }

    @Override public int result(int job) {
        Job asked = find(job);
        if (!asked.finished) {
            throw new IllegalStateException();
        }
        if (asked.cause != null && asked.cause > 0) {
            throw new ArithmeticException();
        }
        if (asked.cause != null) {
            throw new NoSuchElementException();
        }
        return asked.sum;
    }

    @Override public int state(int job) {
        Job asked = find(job);
        int ended = asked.bodyEnded ? 8 : 0;
        if (!asked.finished) {
            return ended + 4 + (asked.cause == null ? 0 : 1);
        }
        return ended + (asked.cause == null ? 0 : asked.cause == 0 ? 1 : 2);
    }

    @Override public int cause(int job) {
        Job asked = find(job);
        if (asked.cause == null) {
            throw new NoSuchElementException();
        }
        return asked.cause;
    }

    @Override public int about(int job, int what) {
        Job asked = find(job);
        need(in(what, 0, 8));
        switch (what) {
            case 0: return asked.parent == null ? -1 : asked.parent.id;
            case 1: return asked.sort.ordinal();
            case 2: return asked.suppressed;
            case 3: return asked.sum;
            case 4: return asked.frames.size();
            case 8: return (int) asked.open();
            default: return asked.slots[what - 5] == null ? -1 : asked.slots[what - 5].id;
        }
    }

    @Override public int noted(int k) {
        if (!in(k, 0, Math.min(60, notes.size()) - 1)) {
            throw new NoSuchElementException();
        }
        return notes.get(k);
    }

    @Override public int count(int what) {
        switch (what) {
            case 0: return jobs.size();
            case 1: return (int) jobs.stream().filter(j -> j.finished).count();
            case 2: return notes.size();
            case 3: return clock;
            case 4: return ready.size();
            case 5: return resumings;
            case 6: return (int) timers.stream().filter(this::live).count();
            case 7: return actions;
            default: return -1;
        }
    }
}
