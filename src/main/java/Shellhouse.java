import java.util.ArrayList;
import java.util.Arrays;
import java.util.NoSuchElementException;

/** A shell: sessions run jobs, jobs wait for locks, signals stop, go on and end them. */
public final class Shellhouse {
    private static final int MOST_SESSIONS = 4;
    private static final int MOST_JOBS = 30;
    private static final int LOCKS = 6;
    private static final int ALL_LOCKS = 63;
    private static final int MOST_COMMAND = 99;
    private static final int MOST_WORK = 50;
    private static final int MOST_TICKS = 60;
    private static final int KEPT_OF_SESSION = 8;
    private static final int KEPT_IN_COMMON = 12;
    private static final int NONE = -1;

    private static final char RUNS = 'r';
    private static final char WAITS = 'w';
    private static final char STOPPED = 's';
    private static final char DONE = 'd';
    private static final char ENDED = 'k';

    private static final char SIGN_STOP = 's';
    private static final char SIGN_GO_ON = 'g';
    private static final char SIGN_END = 'k';

    private final ArrayList<Session> sessions;
    private final ArrayList<Job> jobs;
    /** The jobs that wait, the one that has waited longest first. */
    private final ArrayList<Job> order;
    /** For each lock the number of the job that holds it, or NONE. */
    private final int[] holders;
    private final History commonHistory;
    private final Journal journal;
    private long ticksWorked;

    public Shellhouse() {
        sessions = new ArrayList<Session>();
        jobs = new ArrayList<Job>();
        order = new ArrayList<Job>();
        holders = new int[LOCKS];
        Arrays.fill(holders, NONE);
        commonHistory = new History(KEPT_IN_COMMON);
        journal = new Journal();
        ticksWorked = 0;
    }

    // Sessions and histories.

    public int open(boolean isPrivate) throws IllegalStateException {
        int number = sessions.size();
        if (number >= MOST_SESSIONS) {
            throw new IllegalStateException("there are 4 sessions");
        }
        sessions.add(new Session(isPrivate, number));
        return number;
    }

    public boolean setPrivate(int session, boolean isPrivate) throws IndexOutOfBoundsException {
        Session found = sessionNumbered(session);
        boolean before = found.hidden;
        found.hidden = isPrivate;
        return before;
    }

    public int drop(int session) throws IndexOutOfBoundsException, IllegalStateException {
        Session found = sessionNumbered(session);
        if (!found.attached) {
            throw new IllegalStateException("the session is dropped");
        }
        found.attached = false;
        Job job = found.inFront;
        if (job == null || !canBeStopped(job)) {
            return NONE;
        }
        pause(job);
        found.pausedByDrop = job;
        return job.number;
    }

    public int takeUp(int session) throws IndexOutOfBoundsException, IllegalStateException {
        Session found = sessionNumbered(session);
        if (found.attached) {
            throw new IllegalStateException("the session is attached");
        }
        found.attached = true;
        Job job = found.pausedByDrop;
        found.pausedByDrop = null;
        if (job == null || !canGoOn(job)) {
            return NONE;
        }
        resume(job);
        return job.number;
    }

    public boolean isAttached(int session) throws IndexOutOfBoundsException {
        return sessionNumbered(session).attached;
    }

    public int kept(int session) throws IndexOutOfBoundsException {
        return sessionNumbered(session).history.size;
    }

    public int commandAt(int session, int back) throws IndexOutOfBoundsException, NoSuchElementException {
        return commandOf(sessionNumbered(session).history, back);
    }

    public int common() {
        return commonHistory.size;
    }

    public int commonAt(int back) throws NoSuchElementException {
        return commandOf(commonHistory, back);
    }

    public int search(int session, int least, int most)
            throws IndexOutOfBoundsException, IllegalArgumentException, NoSuchElementException {
        Session home = sessionNumbered(session);
        if (least < 0 || most < least || most > MOST_COMMAND) {
            throw new IllegalArgumentException("there is no such range of commands");
        }
        int command = home.history.lastBetween(least, most);
        if (command == NONE && !home.hidden) {
            command = commonHistory.lastBetween(least, most);
        }
        if (command == NONE) {
            throw new NoSuchElementException("no command of the range is kept");
        }
        return command;
    }

    // Jobs.

    public int start(int session, int command, int work, int locks, boolean inFront)
            throws IndexOutOfBoundsException, IllegalArgumentException, UnsupportedOperationException,
            IllegalStateException {
        Session home = sessionNumbered(session);
        if (!isCommand(command) || !isWork(work) || !areLocks(locks)) {
            throw new IllegalArgumentException("a number is out of range");
        }
        if (inFront && !home.attached) {
            throw new UnsupportedOperationException("the session is dropped");
        }
        int number = jobs.size();
        if (number >= MOST_JOBS) {
            throw new IllegalStateException("there are 30 jobs");
        }
        Job job = new Job(number, home, work, locks);
        jobs.add(job);
        if (inFront) {
            home.inFront = job;
        }
        remember(home, command);
        waitForLocks(job);
        return number;
    }

    public char state(int job) throws IndexOutOfBoundsException {
        return jobNumbered(job).condition;
    }

    public char stateByJournal(int job) throws IndexOutOfBoundsException {
        return journal.lastStateOf(jobNumbered(job).number);
    }

    public int toDo(int job) throws IndexOutOfBoundsException {
        return jobNumbered(job).ticksLeft;
    }

    public int sessionOf(int job) throws IndexOutOfBoundsException {
        return jobNumbered(job).home.number;
    }

    public int front(int session) throws IndexOutOfBoundsException, NoSuchElementException {
        return jobInFrontOf(sessionNumbered(session)).number;
    }

    public boolean toFront(int job)
            throws IndexOutOfBoundsException, UnsupportedOperationException, IllegalStateException {
        Job found = jobNumbered(job);
        Session home = found.home;
        if (home.inFront == found || !home.attached) {
            throw new UnsupportedOperationException("it is in front already, or its session is dropped");
        }
        if (isOver(found)) {
            throw new IllegalStateException("the job is done or ended");
        }
        boolean another = home.inFront != null;
        home.inFront = found;
        return another;
    }

    public int toBack(int session) throws IndexOutOfBoundsException, NoSuchElementException {
        Session found = sessionNumbered(session);
        Job job = jobInFrontOf(found);
        found.inFront = null;
        return job.number;
    }

    public int count(int session, char state) throws IndexOutOfBoundsException, IllegalArgumentException {
        Session home = sessionNumbered(session);
        if (!isState(state)) {
            throw new IllegalArgumentException("there is no such state");
        }
        int found = 0;
        for (int i = 0; i < jobs.size(); i++) {
            Job job = jobs.get(i);
            if (job.home == home && job.condition == state) {
                found++;
            }
        }
        return found;
    }

    // Locks and signals.

    public int holder(int lock) throws IllegalArgumentException {
        refuseNoLock(lock);
        return holders[lock];
    }

    public int holderByJobs(int lock) throws IllegalArgumentException {
        refuseNoLock(lock);
        for (int i = 0; i < jobs.size(); i++) {
            Job job = jobs.get(i);
            if (job.holding && job.needs(lock)) {
                return job.number;
            }
        }
        return NONE;
    }

    public boolean holds(int job) throws IndexOutOfBoundsException {
        return jobNumbered(job).holding;
    }

    public int waiting() {
        return order.size();
    }

    public int waitingAt(int rank) throws NoSuchElementException {
        if (rank < 0 || rank >= order.size()) {
            throw new NoSuchElementException("no job waits at this rank");
        }
        return order.get(rank).number;
    }

    public int blockers(int job) throws IndexOutOfBoundsException, IllegalStateException {
        Job waiter = jobNumbered(job);
        if (waiter.condition != WAITS) {
            throw new IllegalStateException("the job does not wait");
        }
        int found = 0;
        for (int i = 0; i < jobs.size(); i++) {
            Job other = jobs.get(i);
            if (other != waiter && other.holding && (other.needed & waiter.needed) != 0) {
                found++;
            }
        }
        return found;
    }

    public int stop(int job) throws IndexOutOfBoundsException, IllegalStateException {
        Job found = jobNumbered(job);
        if (!canBeStopped(found)) {
            throw new IllegalStateException("the job neither runs nor waits");
        }
        pause(found);
        return order.size();
    }

    public int goOn(int job) throws IndexOutOfBoundsException, IllegalStateException {
        Job found = jobNumbered(job);
        if (!canGoOn(found)) {
            throw new IllegalStateException("the job is not stopped");
        }
        resume(found);
        return order.size();
    }

    public int end(int job) throws IndexOutOfBoundsException, IllegalStateException {
        Job found = jobNumbered(job);
        if (isOver(found)) {
            throw new IllegalStateException("the job is done or ended");
        }
        finish(found, ENDED);
        return order.size();
    }

    public int signal(int session, char sign) throws IndexOutOfBoundsException, IllegalArgumentException {
        Session home = sessionNumbered(session);
        if (sign != SIGN_STOP && sign != SIGN_GO_ON && sign != SIGN_END) {
            throw new IllegalArgumentException("there is no such signal");
        }
        int sent = 0;
        for (int i = 0; i < jobs.size(); i++) {
            Job job = jobs.get(i);
            if (job.home == home && obeys(job, sign)) {
                sent++;
            }
        }
        return sent;
    }

    public int tick(int ticks) throws IllegalArgumentException {
        if (ticks < 1 || ticks > MOST_TICKS) {
            throw new IllegalArgumentException("the ticks are not between 1 and 60");
        }
        int done = 0;
        for (int passed = 0; passed < ticks; passed++) {
            done += passOneTick();
        }
        return done;
    }

    // The journal.

    public int entries() {
        return journal.size;
    }

    public int entryJob(int entry) throws NoSuchElementException {
        refuseNoEntry(entry);
        return journal.jobNumbers[entry];
    }

    public char entryState(int entry) throws NoSuchElementException {
        refuseNoEntry(entry);
        return journal.conditionAt(entry);
    }

    public long worked() {
        return ticksWorked;
    }

    public float doneShare() throws NoSuchElementException {
        int all = jobs.size();
        if (all == 0) {
            throw new NoSuchElementException("there are no jobs");
        }
        int done = 0;
        for (int i = 0; i < all; i++) {
            if (jobs.get(i).condition == DONE) {
                done++;
            }
        }
        return (float) done / (float) all;
    }

    // What is asked for, or the exception that the document names.

    private Session sessionNumbered(int number) {
        if (number < 0 || number >= sessions.size()) {
            throw new IndexOutOfBoundsException("there is no such session");
        }
        return sessions.get(number);
    }

    private Job jobNumbered(int number) {
        if (number < 0 || number >= jobs.size()) {
            throw new IndexOutOfBoundsException("there is no such job");
        }
        return jobs.get(number);
    }

    private static Job jobInFrontOf(Session session) {
        Job job = session.inFront;
        if (job == null) {
            throw new NoSuchElementException("no job is in front");
        }
        return job;
    }

    private static int commandOf(History history, int back) {
        if (back < 0 || back >= history.size) {
            throw new NoSuchElementException("there is no such command");
        }
        return history.commands[history.size - 1 - back];
    }

    private static void refuseNoLock(int lock) {
        if (lock < 0 || lock >= LOCKS) {
            throw new IllegalArgumentException("there is no such lock");
        }
    }

    private void refuseNoEntry(int entry) {
        if (entry < 0 || entry >= journal.size) {
            throw new NoSuchElementException("there is no such entry");
        }
    }

    // Tests of numbers, signs and jobs.

    private static boolean isCommand(int command) {
        return command >= 0 && command <= MOST_COMMAND;
    }

    private static boolean isWork(int work) {
        return work >= 1 && work <= MOST_WORK;
    }

    private static boolean areLocks(int locks) {
        return locks >= 0 && locks <= ALL_LOCKS;
    }

    private static boolean isState(char state) {
        return state == RUNS || state == WAITS || state == STOPPED || state == DONE || state == ENDED;
    }

    private static boolean canBeStopped(Job job) {
        return job.condition == RUNS || job.condition == WAITS;
    }

    private static boolean canGoOn(Job job) {
        return job.condition == STOPPED;
    }

    private static boolean isOver(Job job) {
        return job.condition == DONE || job.condition == ENDED;
    }

    // What happens to jobs.

    private void remember(Session home, int command) {
        home.history.append(command);
        if (!home.hidden) {
            commonHistory.forget(command);
            commonHistory.append(command);
        }
    }

    private void comeInto(Job job, char condition) {
        job.condition = condition;
        journal.write(job.number, condition);
    }

    private void waitForLocks(Job job) {
        comeInto(job, WAITS);
        order.add(job);
        lookAtOrder();
    }

    private void pause(Job job) {
        leaveOrder(job);
        comeInto(job, STOPPED);
        lookAtOrder();
    }

    private void resume(Job job) {
        // A job that went on once is not taken up with its session any more.
        if (job.home.pausedByDrop == job) {
            job.home.pausedByDrop = null;
        }
        if (job.holding) {
            comeInto(job, RUNS);
            lookAtOrder();
        } else {
            waitForLocks(job);
        }
    }

    private void finish(Job job, char condition) {
        leaveOrder(job);
        if (job.holding) {
            setHolder(job, NONE);
            job.holding = false;
        }
        if (job.home.inFront == job) {
            job.home.inFront = null;
        }
        comeInto(job, condition);
        lookAtOrder();
    }

    /** Sends a signal to a job; false if that is not possible. */
    private boolean obeys(Job job, char sign) {
        if (sign == SIGN_STOP && canBeStopped(job)) {
            pause(job);
            return true;
        }
        if (sign == SIGN_GO_ON && canGoOn(job)) {
            resume(job);
            return true;
        }
        if (sign == SIGN_END && !isOver(job)) {
            finish(job, ENDED);
            return true;
        }
        return false;
    }

    private int passOneTick() {
        // Jobs that get their locks within the tick do not work in it, so who runs is told first.
        for (int i = 0; i < jobs.size(); i++) {
            Job job = jobs.get(i);
            job.works = job.condition == RUNS;
        }
        int done = 0;
        for (int i = 0; i < jobs.size(); i++) {
            Job job = jobs.get(i);
            if (job.works && workIsDone(job)) {
                finish(job, DONE);
                done++;
            }
        }
        return done;
    }

    private boolean workIsDone(Job job) {
        job.ticksLeft--;
        ticksWorked++;
        return job.ticksLeft == 0;
    }

    // The jobs that wait, and the locks.

    private void leaveOrder(Job job) {
        for (int rank = 0; rank < order.size(); rank++) {
            if (order.get(rank) == job) {
                order.remove(rank);
                return;
            }
        }
    }

    private void lookAtOrder() {
        int rank = 0;
        for (int left = order.size(); left > 0 && rank < order.size(); left--) {
            Job job = order.get(rank);
            if (locksAreFreeFor(job)) {
                order.remove(rank);
                setHolder(job, job.number);
                job.holding = true;
                comeInto(job, RUNS);
            } else {
                rank++;
            }
        }
    }

    private boolean locksAreFreeFor(Job job) {
        for (int lock = 0; lock < LOCKS; lock++) {
            if (job.needs(lock) && holders[lock] != NONE) {
                return false;
            }
        }
        return true;
    }

    private void setHolder(Job job, int holder) {
        for (int lock = 0; lock < LOCKS; lock++) {
            if (job.needs(lock)) {
                holders[lock] = holder;
            }
        }
    }

    private static final class Session {
        final int number;
        final History history;
        boolean hidden;
        boolean attached;
        /** The job in front, or null. */
        Job inFront;
        /** The job that the last drop stopped, as long as it has not gone on, or null. */
        Job pausedByDrop;

        Session(boolean hidden, int number) {
            this.number = number;
            this.hidden = hidden;
            history = new History(KEPT_OF_SESSION);
            attached = true;
            inFront = null;
            pausedByDrop = null;
        }
    }

    private static final class Job {
        final int number;
        final Session home;
        final int needed;
        int ticksLeft;
        char condition;
        /** Whether it has its locks; one that needs none has them as soon as it has run. */
        boolean holding;
        /** Whether it ran at the beginning of the tick that passes. */
        boolean works;

        Job(int number, Session home, int work, int needed) {
            this.number = number;
            this.home = home;
            this.needed = needed;
            ticksLeft = work;
            condition = WAITS;
            holding = false;
            works = false;
        }

        boolean needs(int lock) {
            return (needed >> lock & 1) == 1;
        }
    }

    /** The last commands, the oldest one first, as many as there is room for. */
    private static final class History {
        final int[] commands;
        int size;

        History(int room) {
            commands = new int[room];
            size = 0;
        }

        void append(int command) {
            if (size >= commands.length) {
                takeOut(0);
            }
            commands[size] = command;
            size++;
        }

        void forget(int command) {
            for (int place = 0; place < size; place++) {
                if (commands[place] == command) {
                    takeOut(place);
                    return;
                }
            }
        }

        private void takeOut(int place) {
            for (int i = place; i + 1 < size; i++) {
                commands[i] = commands[i + 1];
            }
            size--;
        }

        /** The last command of a range, or NONE. */
        int lastBetween(int least, int most) {
            for (int place = size - 1; place >= 0; place--) {
                if (commands[place] >= least && commands[place] <= most) {
                    return commands[place];
                }
            }
            return NONE;
        }
    }

    /** Each time a job came into a state. */
    private static final class Journal {
        /** Few runs need the room of the longest one, so the rows grow. */
        private static final int FIRST_ROOM = 64;
        /** 512 calls with at most 30 entries each, and each job getting its locks once, stay below. */
        private static final int MOST_ROOM = 16384;

        int[] jobNumbers;
        /** Each one the number of its sign. */
        int[] conditions;
        int size;

        Journal() {
            jobNumbers = new int[FIRST_ROOM];
            conditions = new int[FIRST_ROOM];
            size = 0;
        }

        void write(int job, char condition) {
            if (size >= MOST_ROOM) {
                return;
            }
            if (size >= conditions.length) {
                int room = Math.min(2 * conditions.length, MOST_ROOM);
                jobNumbers = Arrays.copyOf(jobNumbers, room);
                conditions = Arrays.copyOf(conditions, room);
            }
            jobNumbers[size] = job;
            conditions[size] = condition;
            size++;
        }

        char conditionAt(int entry) {
            return (char) conditions[entry];
        }

        char lastStateOf(int job) {
            for (int entry = size - 1; entry >= 0; entry--) {
                if (jobNumbers[entry] == job) {
                    return conditionAt(entry);
                }
            }
            // Only a job that was started when the journal was full comes here.
            return WAITS;
        }
    }
}
