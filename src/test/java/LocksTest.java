/** Promises 21 to 31: locks, signals and ticks. */
public final class LocksTest extends Cases {
    public static void main(String[] args) {
        holders("promise 21", "holder");
        holders("promise 22", "holderByJobs");
        holds();
        waiting();
        waitingAt();
        oneBehindMayPass();
        blockers();
        stop();
        goOn();
        goOnAtOnce();
        end();
        signalToStop();
        signalToGoOn();
        signalToEnd();
        signalLooksBehindEach();
        signalRefuses();
        tick();
        tickLooksBehindEach();
        tickOfManyJobs();
        tickOfADroppedSession();
        Run.tell("LocksTest");
    }

    private static void holders(String title, String asking) {
        Run run = jobs(shared(title).due(-1, asking, 0).due(-1, asking, 5), 0, 5, 3, 36, 2);
        run.due(0, asking, 0).due(0, asking, 1).due(1, asking, 2).due(-1, asking, 3).due(-1, asking, 4)
            .due(1, asking, 5).call("stop", 0).due(0, asking, 0).due(0, asking, 1)
            .call("end", 0).due(-1, asking, 0).due(2, asking, 1)
            .due(2, "tick", 5).due(-1, asking, 1).due(-1, asking, 2).due(-1, asking, 5)
            .refuses(ARGUMENT, asking, 6).refuses(ARGUMENT, asking, -1)
            .refuses(ARGUMENT, asking, Integer.MAX_VALUE).refuses(ARGUMENT, asking, Integer.MIN_VALUE);
    }

    private static void holds() {
        Run run = jobs(shared("promise 23").refuses(OUTSIDE, "holds", 0), 0, 5, 1, 1, 0);
        run.due(true, "holds", 0).due(false, "holds", 1).due(true, "holds", 2)
            .call("stop", 0).call("stop", 1).call("stop", 2)
            .due(true, "holds", 0).due(false, "holds", 1).due(true, "holds", 2)
            .call("goOn", 2).due(1, "tick", 5).due(false, "holds", 2).call("end", 0).due(false, "holds", 0)
            .call("goOn", 1).due(true, "holds", 1).call("end", 1).due(false, "holds", 1)
            .refuses(OUTSIDE, "holds", 3).refuses(OUTSIDE, "holds", -1);
    }

    private static void waiting() {
        Run run = shared("promise 24").due(0, "waiting");
        jobs(run, 0, 2, 1).due(0, "waiting");
        jobs(run, 0, 2, 1, 1).due(2, "waiting");
        jobs(run, 0, 2, 2).due(2, "waiting");
        run.due(1, "stop", 1).due(1, "waiting").due(2, "goOn", 1).due(2, "waiting")
            .due(2, "tick", 2).due(1, "waiting").due(0, "end", 1).due(0, "waiting");
    }

    private static void waitingAt() {
        Run run = jobs(shared("promise 25"), 0, 5, 1, 1, 1, 1);
        run.due(1, "waitingAt", 0).due(2, "waitingAt", 1).due(3, "waitingAt", 2)
            .refuses(MISSING, "waitingAt", 3).refuses(MISSING, "waitingAt", -1)
            .refuses(MISSING, "waitingAt", Integer.MAX_VALUE).refuses(MISSING, "waitingAt", Integer.MIN_VALUE)
            .call("stop", 2).due(1, "waitingAt", 0).due(3, "waitingAt", 1).refuses(MISSING, "waitingAt", 2)
            .call("goOn", 2).due(3, "waitingAt", 1).due(2, "waitingAt", 2)
            .call("end", 0).due('r', "state", 1).due(3, "waitingAt", 0).due(2, "waitingAt", 1);
    }

    private static void oneBehindMayPass() {
        jobs(shared("locks, one behind passes"), 0, 5, 1, 3, 2, 1).due('r', "state", 2).due('w', "state", 1)
            .due(1, "waitingAt", 0).due(3, "waitingAt", 1).due(1, "end", 0).due('w', "state", 1).due('r', "state", 3)
            .due(1, "end", 2).due('w', "state", 1).due(0, "end", 3).due('r', "state", 1)
            .due(1, "holder", 0).due(1, "holder", 1);
        jobs(shared("locks, the first one takes them"), 0, 5, 3, 1, 3, 2).due(3, "waiting").due(1, "end", 0)
            .due('r', "state", 1).due('w', "state", 2).due('r', "state", 3);
    }

    private static void blockers() {
        Run run = jobs(shared("promise 26").refuses(OUTSIDE, "blockers", 0), 0, 5, 3, 4, 7, 8, 2, 32);
        run.due(2, "blockers", 2).due(1, "blockers", 4)
            .refuses(STATE, "blockers", 0).refuses(STATE, "blockers", 3)
            .refuses(OUTSIDE, "blockers", 6).refuses(OUTSIDE, "blockers", -1)
            .call("stop", 0).due(2, "blockers", 2).call("stop", 2).refuses(STATE, "blockers", 2).call("goOn", 2)
            .call("end", 0).due('r', "state", 4).due(2, "blockers", 2).call("end", 1).due(1, "blockers", 2)
            .call("end", 4).refuses(STATE, "blockers", 2).due('r', "state", 2);
    }

    private static void stop() {
        Run run = jobs(shared("promise 27").refuses(OUTSIDE, "stop", 0), 0, 2, 1, 1, 1, 2);
        run.due(2, "stop", 0).due('s', "state", 0).due('w', "state", 1).due(1, "stop", 1).due('s', "state", 1)
            .refuses(STATE, "stop", 0).refuses(STATE, "stop", 1).refuses(OUTSIDE, "stop", 4)
            .refuses(OUTSIDE, "stop", -1).due(1, "tick", 2).refuses(STATE, "stop", 3)
            .due(2, "toDo", 0).due(0, "end", 0).refuses(STATE, "stop", 0).due('r', "state", 2).due('s', "state", 1);
    }

    private static void goOn() {
        Run run = jobs(shared("promise 28").refuses(OUTSIDE, "goOn", 0), 0, 2, 1, 1, 1, 0);
        run.refuses(STATE, "goOn", 0).refuses(STATE, "goOn", 1).refuses(OUTSIDE, "goOn", 4)
            .refuses(OUTSIDE, "goOn", -1).due(2, "stop", 0).due(1, "stop", 1)
            .due(1, "goOn", 0).due('r', "state", 0).due(2, "goOn", 1).due('w', "state", 1)
            .due(2, "waitingAt", 0).due(1, "waitingAt", 1)
            .due(2, "tick", 2).refuses(STATE, "goOn", 0).call("end", 1).refuses(STATE, "goOn", 1);
    }

    private static void goOnAtOnce() {
        jobs(shared("promise 28, runs at once"), 0, 2, 1, 1).due(0, "stop", 1).due(0, "end", 0)
            .due('s', "state", 1).due(false, "holds", 1).due(5, "entries").due(0, "goOn", 1)
            .due('r', "state", 1).due(1, "holder", 0).due(7, "entries")
            .due('w', "entryState", 5).due('r', "entryState", 6);
    }

    private static void end() {
        Run run = jobs(shared("promise 29").refuses(OUTSIDE, "end", 0), 0, 2, 1, 1, 1, 1, 0);
        run.refuses(OUTSIDE, "end", 5).refuses(OUTSIDE, "end", -1)
            .due(2, "end", 2).due('k', "state", 2).due(3, "waitingAt", 1).due(1, "end", 0).due('r', "state", 1)
            .due(1, "stop", 1).due(0, "end", 1).due('k', "state", 1).due('r', "state", 3)
            .refuses(STATE, "end", 0).refuses(STATE, "end", 1).due(2, "tick", 2)
            .refuses(STATE, "end", 3).refuses(STATE, "end", 4);
        jobs(shared("promise 29, a stopped one without locks"), 0, 2, 1, 1).due(0, "stop", 1).due(0, "end", 1)
            .due(0, "holder", 0).due('r', "state", 0).due(true, "holds", 0);
    }

    private static void signalToStop() {
        Run run = jobs(shared("promise 30, s").due(1, "open", false), 0, 1, 1, 1, 0);
        jobs(run, 1, 5, 1, 0).call("start", 0, 0, 5, 0, true).due(1, "stop", 1)
            .due(3, "signal", 0, 's').due('s', "state", 0).due('s', "state", 2).due('s', "state", 5)
            .due('w', "state", 3).due('r', "state", 4).due(5, "front", 0)
            .due(0, "signal", 0, 's').due(0, "tick", 2).due(3, "toDo", 4).due(2, "worked");
    }

    private static void signalToGoOn() {
        Run run = jobs(shared("promise 30, g").due(1, "open", false), 0, 5, 1, 1, 1, 0);
        jobs(run, 1, 5, 0).call("stop", 4).due(4, "signal", 0, 's').due(0, "waiting")
            .due(4, "signal", 0, 'g').due('r', "state", 0).due('w', "state", 1).due('w', "state", 2)
            .due('r', "state", 3).due('s', "state", 4).due(1, "waitingAt", 0).due(2, "waitingAt", 1)
            .due(0, "signal", 0, 'g').due(1, "signal", 1, 'g').due('r', "state", 4);
    }

    private static void signalToEnd() {
        Run run = jobs(shared("promise 30, k").due(1, "open", false), 0, 1, 2, 0);
        jobs(run, 0, 5, 1, 1, 1);
        jobs(run, 1, 5, 1).due(2, "tick", 1).due(2, "stop", 3).due(3, "signal", 0, 'k')
            .due('d', "state", 0).due('d', "state", 1).due('k', "state", 2).due('k', "state", 3)
            .due('k', "state", 4).due('r', "state", 5).due(5, "holder", 0).due(0, "signal", 0, 'k');
    }

    private static void signalLooksBehindEach() {
        // Behind the end of job 0 job 1 gets its lock, is in the journal as running, and is ended then.
        jobs(shared("promise 30, looks behind each"), 0, 5, 1, 1).due(3, "entries").due(2, "signal", 0, 'k')
            .due(6, "entries").due('k', "entryState", 3).due(0, "entryJob", 3)
            .due('r', "entryState", 4).due(1, "entryJob", 4).due('k', "entryState", 5).due(1, "entryJob", 5);
        // Behind the end of job 0 the lock 0 goes to job 3, though job 2 would have both a moment later.
        Run run = jobs(shared("promise 30, looks behind each, two locks").due(1, "open", false), 0, 5, 1, 2);
        jobs(run, 1, 5, 3, 1).due(2, "waiting").due(2, "signal", 0, 'k').due('w', "state", 2).due('r', "state", 3);
    }

    private static void signalRefuses() {
        jobs(shared("promise 30, wrong inputs"), 0, 5, 1, 1)
            .refuses(OUTSIDE, "signal", 1, 's').refuses(OUTSIDE, "signal", -1, 'x')
            .refuses(ARGUMENT, "signal", 0, 'x').refuses(ARGUMENT, "signal", 0, 'r')
            .refuses(ARGUMENT, "signal", 0, 'S').refuses(ARGUMENT, "signal", 0, '\0');
        shared("promise 30, no jobs").due(0, "signal", 0, 's').due(0, "signal", 0, 'g').due(0, "signal", 0, 'k')
            .call("start", 0, 1, 5, 0, true).due(0, "drop", 0).due(1, "signal", 0, 'g').due('r', "state", 0);
    }

    private static void tick() {
        Run run = shared("promise 31").due(0, "tick", 1).due(0, "tick", 60)
            .refuses(ARGUMENT, "tick", 0).refuses(ARGUMENT, "tick", 61).refuses(ARGUMENT, "tick", -1)
            .refuses(ARGUMENT, "tick", Integer.MIN_VALUE).refuses(ARGUMENT, "tick", Integer.MAX_VALUE);
        jobs(run, 0, 3, 1, 1, 0).due(0, "tick", 2).due(1, "toDo", 0).due(3, "toDo", 1)
            .due(2, "tick", 1).due('d', "state", 0).due('d', "state", 2)
            // It runs now, but has not worked in the tick in which it got its lock.
            .due('r', "state", 1).due(3, "toDo", 1).due(1, "holder", 0).due(1, "tick", 3).due('d', "state", 1)
            .due(0, "tick", 60).due(9, "worked");
    }

    private static void tickLooksBehindEach() {
        // Job 3 takes the lock 0 before job 1 is done, so that job 2 does not get both.
        jobs(shared("promise 31, looks behind each"), 0, 1, 1, 2, 3, 1).due(2, "tick", 1)
            .due('w', "state", 2).due('r', "state", 3).due(9, "entries")
            .due('d', "entryState", 6).due(0, "entryJob", 6).due('r', "entryState", 7).due(3, "entryJob", 7)
            .due('d', "entryState", 8).due(1, "entryJob", 8).due(1, "tick", 1).due('r', "state", 2);
    }

    private static void tickOfManyJobs() {
        Run run = shared("promise 31, many jobs");
        for (int i = 0; i < 30; i++) {
            run.due(i, "start", 0, 0, 2, 32, false);
        }
        run.due(29, "waiting").due(0, "tick", 1).due(1, "tick", 1).due(28, "waiting").due(29, "tick", 58)
            .due(0, "waiting").due(60, "worked").due(1.0f, "doneShare").due(-1, "holder", 5);
    }

    private static void tickOfADroppedSession() {
        shared("promise 31, a dropped session").call("start", 0, 1, 3, 1, true).call("start", 0, 1, 3, 2, false)
            .due(0, "drop", 0).due(0, "tick", 1).due(3, "toDo", 0).due(2, "toDo", 1)
            .due(0, "goOn", 0).due(0, "tick", 1).due(2, "toDo", 0).due(1, "toDo", 1)
            .due(2, "tick", 2).refuses(MISSING, "front", 0).due('d', "state", 0).due(-1, "takeUp", 0);
    }
}
