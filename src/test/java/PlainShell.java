import java.util.ArrayList;
import java.util.List;
import java.util.NoSuchElementException;

/**
 * The document once more, for the tests, in another way than the program's: what happened is kept (the journal, the
 * starts, the drops), and each answer is found from it when it is asked for.
 */
final class PlainShell {
    private record Entry(int job, char state) { }

    private record Start(int session, int command, int work, int locks, boolean common) { }

    private final List<Entry> journal = new ArrayList<>();
    private final List<Start> starts = new ArrayList<>();
    private final List<Integer> workedBy = new ArrayList<>();
    private final List<Boolean> hidden = new ArrayList<>();
    private final int[] fronts = {-1, -1, -1, -1};
    /** For each session -2 if it is attached, -1 if its drop stopped none, or the entry of that stop. */
    private final int[] drops = {-2, -2, -2, -2};

    int open(boolean isPrivate) {
        if (hidden.size() == 4) {
            throw new IllegalStateException();
        }
        hidden.add(isPrivate);
        return hidden.size() - 1;
    }

    boolean setPrivate(int session, boolean isPrivate) {
        needSession(session);
        return hidden.set(session, isPrivate);
    }

    int drop(int session) {
        if (!isAttached(session)) {
            throw new IllegalStateException();
        }
        int job = fronts[session];
        if (job < 0 || "rw".indexOf(state(job)) < 0) {
            drops[session] = -1;
            return -1;
        }
        drops[session] = journal.size();
        enter(job, 's');
        return job;
    }

    int takeUp(int session) {
        if (isAttached(session)) {
            throw new IllegalStateException();
        }
        int entry = drops[session];
        drops[session] = -2;
        if (entry < 0) {
            return -1;
        }
        int job = journal.get(entry).job;
        if (lastEntryOf(job) != entry) {
            return -1;
        }
        goOn(job);
        return job;
    }

    boolean isAttached(int session) {
        needSession(session);
        return drops[session] == -2;
    }

    int kept(int session) {
        return historyOf(session).size();
    }

    int commandAt(int session, int back) {
        return at(historyOf(session), back);
    }

    int common() {
        return commonHistory().size();
    }

    int commonAt(int back) {
        return at(commonHistory(), back);
    }

    int search(int session, int least, int most) {
        List<Integer> places = new ArrayList<>(historyOf(session));
        if (least < 0 || least > most || most > 99) {
            throw new IllegalArgumentException();
        }
        if (!hidden.get(session)) {
            places.addAll(commonHistory());
        }
        return places.stream().filter(c -> c >= least && c <= most).findFirst().orElseThrow();
    }

    int start(int session, int command, int work, int locks, boolean inFront) {
        boolean attached = isAttached(session);
        if (command < 0 || command > 99 || work < 1 || work > 50 || locks < 0 || locks > 63) {
            throw new IllegalArgumentException();
        }
        if (inFront && !attached) {
            throw new UnsupportedOperationException();
        }
        int job = starts.size();
        if (job == 30) {
            throw new IllegalStateException();
        }
        starts.add(new Start(session, command, work, locks, !hidden.get(session)));
        workedBy.add(0);
        if (inFront) {
            fronts[session] = job;
        }
        enter(job, 'w');
        return job;
    }

    char state(int job) {
        needJob(job);
        return journal.get(lastEntryOf(job)).state;
    }

    char stateByJournal(int job) {
        return state(job);
    }

    int toDo(int job) {
        needJob(job);
        return starts.get(job).work - workedBy.get(job);
    }

    int sessionOf(int job) {
        needJob(job);
        return starts.get(job).session;
    }

    int front(int session) {
        needSession(session);
        if (fronts[session] < 0) {
            throw new NoSuchElementException();
        }
        return fronts[session];
    }

    boolean toFront(int job) {
        int session = sessionOf(job);
        if (fronts[session] == job || drops[session] != -2) {
            throw new UnsupportedOperationException();
        }
        if ("dk".indexOf(state(job)) >= 0) {
            throw new IllegalStateException();
        }
        boolean another = fronts[session] >= 0;
        fronts[session] = job;
        return another;
    }

    int toBack(int session) {
        int job = front(session);
        fronts[session] = -1;
        return job;
    }

    int count(int session, char state) {
        needSession(session);
        if ("rwsdk".indexOf(state) < 0) {
            throw new IllegalArgumentException();
        }
        return (int) jobs().stream().filter(j -> sessionOf(j) == session && state(j) == state).count();
    }

    int holder(int lock) {
        if (lock < 0 || lock > 5) {
            throw new IllegalArgumentException();
        }
        return jobs().stream().filter(j -> holds(j) && (starts.get(j).locks & 1 << lock) != 0).findAny().orElse(-1);
    }

    int holderByJobs(int lock) {
        return holder(lock);
    }

    boolean holds(int job) {
        return "rs".indexOf(state(job)) >= 0 && journal.contains(new Entry(job, 'r'));
    }

    int waiting() {
        return order().size();
    }

    int waitingAt(int rank) {
        return at(order(), rank);
    }

    int blockers(int job) {
        if (state(job) != 'w') {
            throw new IllegalStateException();
        }
        return (int) jobs().stream().filter(j -> holds(j) && (starts.get(j).locks & starts.get(job).locks) != 0).count();
    }

    int stop(int job) {
        return change(job, "rw", 's');
    }

    int goOn(int job) {
        needJob(job);
        return change(job, "s", holds(job) ? 'r' : 'w');
    }

    int end(int job) {
        return change(job, "rws", 'k');
    }

    int signal(int session, char sign) {
        needSession(session);
        if ("sgk".indexOf(sign) < 0) {
            throw new IllegalArgumentException();
        }
        int sent = 0;
        for (int job : jobs()) {
            if (sessionOf(job) == session) {
                try {
                    int ignored = sign == 's' ? stop(job) : sign == 'g' ? goOn(job) : end(job);
                    sent++;
                } catch (IllegalStateException e) {
                    // It is not possible for this job.
                }
            }
        }
        return sent;
    }

    int tick(int ticks) {
        if (ticks < 1 || ticks > 60) {
            throw new IllegalArgumentException();
        }
        int done = 0;
        for (int i = 0; i < ticks; i++) {
            for (int job : jobs().stream().filter(j -> state(j) == 'r').toList()) {
                workedBy.set(job, workedBy.get(job) + 1);
                if (toDo(job) == 0) {
                    enter(job, 'd');
                    done++;
                }
            }
        }
        return done;
    }

    int entries() {
        return journal.size();
    }

    int entryJob(int entry) {
        return entry(entry).job;
    }

    char entryState(int entry) {
        return entry(entry).state;
    }

    long worked() {
        return workedBy.stream().mapToLong(w -> w).sum();
    }

    float doneShare() {
        if (starts.isEmpty()) {
            throw new NoSuchElementException();
        }
        return (float) jobs().stream().filter(j -> state(j) == 'd').count() / starts.size();
    }

    private int change(int job, String from, char to) {
        if (from.indexOf(state(job)) < 0) {
            throw new IllegalStateException();
        }
        enter(job, to);
        return waiting();
    }

    private void enter(int job, char state) {
        journal.add(new Entry(job, state));
        int session = starts.get(job).session;
        if ("dk".indexOf(state) >= 0 && fronts[session] == job) {
            fronts[session] = -1;
        }
        for (int waiter : order()) {
            if (blockers(waiter) == 0) {
                journal.add(new Entry(waiter, 'r'));
            }
        }
    }

    private int lastEntryOf(int job) {
        for (int i = journal.size() - 1; ; i--) {
            if (journal.get(i).job == job) {
                return i;
            }
        }
    }

    private List<Integer> order() {
        return jobs().stream().filter(j -> state(j) == 'w')
            .sorted((a, b) -> lastEntryOf(a) - lastEntryOf(b)).toList();
    }

    private List<Integer> jobs() {
        List<Integer> all = new ArrayList<>();
        for (int job = 0; job < starts.size(); job++) {
            all.add(job);
        }
        return all;
    }

    /** The last command first. */
    private List<Integer> historyOf(int session) {
        needSession(session);
        List<Integer> commands = new ArrayList<>();
        for (int job = starts.size() - 1; job >= 0 && commands.size() < 8; job--) {
            if (starts.get(job).session == session) {
                commands.add(starts.get(job).command);
            }
        }
        return commands;
    }

    /** The last command first. */
    private List<Integer> commonHistory() {
        List<Integer> commands = new ArrayList<>();
        for (int job = starts.size() - 1; job >= 0 && commands.size() < 12; job--) {
            if (starts.get(job).common && !commands.contains(starts.get(job).command)) {
                commands.add(starts.get(job).command);
            }
        }
        return commands;
    }

    private static int at(List<Integer> list, int index) {
        if (index < 0 || index >= list.size()) {
            throw new NoSuchElementException();
        }
        return list.get(index);
    }

    private Entry entry(int number) {
        if (number < 0 || number >= journal.size()) {
            throw new NoSuchElementException();
        }
        return journal.get(number);
    }

    private void needSession(int session) {
        if (session < 0 || session >= hidden.size()) {
            throw new IndexOutOfBoundsException();
        }
    }

    private void needJob(int job) {
        if (job < 0 || job >= starts.size()) {
            throw new IndexOutOfBoundsException();
        }
    }
}
