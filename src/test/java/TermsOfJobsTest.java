/** "Terms", Sessions to Starting: each sentence that names a boundary case, by the words in its title. */
public final class TermsOfJobsTest extends Cases {
    public static void main(String[] args) {
        sessionsAndJobs();
        locks();
        starting();
        Run.tell("TermsOfJobsTest");
    }

    private static void sessionsAndJobs() {
        atMostFourSessions();
        attachedAsAtFirst();
        atMostOneJobInFront();
        atMostThirtyJobs();
        commandsFrom0To99();
        workFrom1To50();
        locksAsASum();
        oneOfTheseStates();
    }

    private static void atMostFourSessions() {
        outside(new Run("At most 4 sessions: none"), 0, "isAttached");
        Run run = new Run("At most 4 sessions have the numbers 0 to n - 1 in the order in which they were opened");
        for (int session = 0; session < 4; session++) {
            outside(run, session, "isAttached").due(session, "open", session % 2 == 0).due(true, "isAttached", session);
        }
        outside(run, 4, "isAttached").refuses(STATE, "open", false).refuses(STATE, "open", true)
            .due(true, "setPrivate", 0, true).due(false, "setPrivate", 1, true)
            .due(true, "setPrivate", 2, true).due(false, "setPrivate", 3, true)
            .due(-1, "drop", 3).refuses(STATE, "open", false);
    }

    private static void attachedAsAtFirst() {
        new Run("A session is attached, as at first, or dropped").due(0, "open", true).due(true, "isAttached", 0)
            .refuses(STATE, "takeUp", 0).due(-1, "drop", 0).due(false, "isAttached", 0).refuses(STATE, "drop", 0)
            .due(1, "open", false).due(true, "isAttached", 1).due(false, "isAttached", 0);
    }

    private static void atMostOneJobInFront() {
        shared("At most one job of a session is in front: none of no jobs").refuses(MISSING, "front", 0);
        Run run = sessions("At most one job of a session is in front", 4);
        for (int job = 0; job < 8; job++) {
            run.due(job, "start", job % 4, 0, 9, 0, true);
        }
        for (int session = 0; session < 4; session++) {
            run.due(4 + session, "front", session);
        }
        // The one that was in front is behind now, and not next in turn.
        run.due(4, "toBack", 0).refuses(MISSING, "front", 0).due(5, "front", 1).due(6, "front", 2).due(7, "front", 3);
    }

    private static void atMostThirtyJobs() {
        Run run = sessions("At most 30 jobs have the numbers 0 to n - 1 in the order in which they were started", 4);
        for (int job = 0; job < 30; job++) {
            outside(run, job, "state").due(job, "start", job * 3 % 4, 0, 1, 0, false)
                .due('r', "state", job).due(job * 3 % 4, "sessionOf", job);
        }
        outside(run, 30, "state");
        for (int session = 0; session < 4; session++) {
            run.refuses(STATE, "start", session, 0, 1, 0, false).refuses(STATE, "start", session, 0, 1, 0, true);
        }
        run.due(0, "end", 29).refuses(STATE, "start", 0, 0, 1, 0, false)
            .due(29, "tick", 1).refuses(STATE, "start", 0, 0, 1, 0, false);
    }

    private static void commandsFrom0To99() {
        shared("a command from 0 to 99").due(0, "start", 0, 0, 1, 0, false).due(0, "commandAt", 0, 0)
            .due(1, "start", 0, 99, 1, 0, false).due(99, "commandAt", 0, 0)
            .due(2, "start", 0, 1, 1, 0, false).due(3, "start", 0, 98, 1, 0, false)
            .refuses(ARGUMENT, "start", 0, -1, 1, 0, false).refuses(ARGUMENT, "start", 0, 100, 1, 0, false)
            .refuses(ARGUMENT, "start", 0, LEAST, 1, 0, false).refuses(ARGUMENT, "start", 0, MOST, 1, 0, false);
    }

    private static void workFrom1To50() {
        shared("a work in ticks from 1 to 50").due(0, "start", 0, 0, 1, 0, false).due(1, "start", 0, 0, 50, 0, false)
            .due(2, "start", 0, 0, 2, 0, false).due(3, "start", 0, 0, 49, 0, false)
            .refuses(ARGUMENT, "start", 0, 0, 0, 0, false).refuses(ARGUMENT, "start", 0, 0, 51, 0, false)
            .refuses(ARGUMENT, "start", 0, 0, -1, 0, false).refuses(ARGUMENT, "start", 0, 0, LEAST, 0, false)
            .refuses(ARGUMENT, "start", 0, 0, MOST, 0, false)
            .due(1, "tick", 1).due('d', "state", 0).due('r', "state", 2).due(1, "tick", 1).due('d', "state", 2)
            .due(0, "tick", 46).due('r', "state", 3).due(1, "tick", 1).due('d', "state", 3)
            .due('r', "state", 1).due(1, "toDo", 1).due(1, "tick", 1).due('d', "state", 1).due(0, "toDo", 1);
    }

    private static void locksAsASum() {
        for (int lock = 0; lock < 6; lock++) {
            Run run = shared("1 for the lock 0, 2 for 1 and so on up to 32 for 5: the lock " + lock)
                .due(0, "start", 0, 0, 1, 1 << lock, false).due(1, "start", 0, 0, 1, 63 - (1 << lock), false)
                .due('r', "state", 1);
            for (int other = 0; other < 6; other++) {
                run.due(other == lock ? 0 : 1, "holder", other).due(other == lock ? 0 : 1, "holderByJobs", other);
            }
        }
        Run run = shared("the locks 0 to 63: just inside and outside").due(0, "start", 0, 0, 9, 0, false);
        for (int lock = 0; lock < 6; lock++) {
            run.due(-1, "holder", lock);
        }
        run.due(1, "start", 0, 0, 9, 63, false);
        for (int lock = 0; lock < 6; lock++) {
            run.due(1, "holder", lock);
        }
        run.refuses(ARGUMENT, "start", 0, 0, 9, -1, false).refuses(ARGUMENT, "start", 0, 0, 9, 64, false)
            .refuses(ARGUMENT, "start", 0, 0, 9, 65, false).refuses(ARGUMENT, "start", 0, 0, 9, LEAST, false)
            .refuses(ARGUMENT, "start", 0, 0, 9, MOST, false)
            .due(2, "start", 0, 0, 9, 62, false).due('w', "state", 2).due(3, "start", 0, 0, 9, 1, false)
            .due('w', "state", 3).due(1, "blockers", 3);
    }

    private static void oneOfTheseStates() {
        shared("'r' if it runs, 'w' if it waits for locks, 's' if it is stopped, 'd' if it is done, 'k' if it was ended")
            .call("start", 0, 0, 1, 0, false).call("start", 0, 0, 2, 1, false).call("start", 0, 0, 2, 1, false)
            .call("start", 0, 0, 2, 0, false).call("start", 0, 0, 2, 0, false)
            .call("stop", 3).call("end", 4).call("tick", 1)
            .due('d', "state", 0).due('r', "state", 1).due('w', "state", 2).due('s', "state", 3).due('k', "state", 4);
    }

    private static void locks() {
        allAtOnce();
        heldUntilDoneOrEnded();
        heldWhileStopped();
        orderOfThoseThatWait();
        orderFull();
        lookedAtWhenOneStarts();
        lookedAtWhenOneGoesOn();
        lookedAtWhenOneIsStopped();
        lookedAtWhenOneIsDone();
        lookedAtWhenOneIsEnded();
        eachOneOfThoseThatCan();
    }

    private static void allAtOnce() {
        jobs(shared("A job gets its locks all at once: none of them before"), 0, 9, 1, 7, 2)
            .due('w', "state", 1).due(-1, "holder", 2).due(-1, "holderByJobs", 2).due(false, "holds", 1)
            .due('r', "state", 2).due(2, "holder", 1).due(2, "blockers", 1)
            .due(1, "end", 0).due('w', "state", 1).due(-1, "holder", 0).due(1, "blockers", 1)
            .due(0, "end", 2).due('r', "state", 1).due(1, "holder", 0).due(1, "holder", 1).due(1, "holder", 2);
    }

    private static void heldUntilDoneOrEnded() {
        jobs(shared("and holds them until it is done"), 0, 2, 33).due(0, "holder", 0).due(0, "holder", 5)
            .due(0, "tick", 1).due(0, "holder", 0).due(0, "holder", 5).due(true, "holds", 0)
            .due(1, "tick", 1).due(-1, "holder", 0).due(-1, "holder", 5).due(false, "holds", 0)
            .due(-1, "holderByJobs", 0).due(-1, "holderByJobs", 5);
        jobs(shared("and holds them until it is ended"), 0, 2, 33).due(0, "holder", 5)
            .due(0, "end", 0).due(-1, "holder", 0).due(-1, "holder", 5).due(false, "holds", 0)
            .due(-1, "holderByJobs", 0).due(-1, "holderByJobs", 5);
        jobs(shared("one that waited has none to give back when it is ended"), 0, 2, 1, 3).due(0, "end", 1)
            .due(0, "holder", 0).due(-1, "holder", 1).due('r', "state", 0).due(true, "holds", 0);
    }

    private static void heldWhileStopped() {
        jobs(shared("also while it is stopped"), 0, 2, 1, 1).due(1, "stop", 0).due(0, "holder", 0)
            .due(0, "holderByJobs", 0).due(true, "holds", 0).due('w', "state", 1).due(1, "blockers", 1)
            .due(0, "tick", 60).due('w', "state", 1).due(0, "end", 0).due('r', "state", 1).due(1, "holder", 0);
    }

    private static void orderOfThoseThatWait() {
        shared("The jobs that wait have an order: none").due(0, "waiting").refuses(MISSING, "waitingAt", 0)
            .call("start", 0, 0, 2, 1, false).due(0, "waiting").refuses(MISSING, "waitingAt", 0);
        jobs(shared("an order, the one in which they became 'w'"), 0, 9, 1, 1, 1, 1).due(1, "waitingAt", 0)
            .due(2, "waitingAt", 1).due(3, "waitingAt", 2).refuses(MISSING, "waitingAt", 3)
            .due(2, "stop", 1).due(3, "goOn", 1).due(2, "waitingAt", 0).due(3, "waitingAt", 1).due(1, "waitingAt", 2)
            .due(2, "end", 0).due('r', "state", 2).due(1, "end", 2).due('r', "state", 3)
            .due(0, "end", 3).due('r', "state", 1);
        jobs(shared("an order: the last one becomes the last one again"), 0, 9, 1, 1, 1).due(1, "stop", 2)
            .due(2, "goOn", 2).due(1, "waitingAt", 0).due(2, "waitingAt", 1);
        jobs(shared("an order: the only one becomes the first one again"), 0, 9, 1, 1).due(0, "stop", 1)
            .refuses(MISSING, "waitingAt", 0).due(1, "goOn", 1).due(1, "waitingAt", 0);
    }

    private static void orderFull() {
        Run run = shared("29 jobs wait for the locks of one");
        for (int job = 0; job < 30; job++) {
            run.due(job, "start", 0, 0, 1, 63, false).due(job, "waiting");
        }
        run.refuses(STATE, "start", 0, 0, 1, 63, false).due(1, "waitingAt", 0).due(29, "waitingAt", 28)
            .refuses(MISSING, "waitingAt", 29);
        for (int job = 0; job < 30; job++) {
            run.due(job, "holder", 0).due(job, "holder", 5).due(1, "tick", 1).due(Math.max(0, 28 - job), "waiting");
        }
        run.due(-1, "holder", 0).due(0, "tick", 1).refuses(MISSING, "waitingAt", 0);
    }

    private static void lookedAtWhenOneStarts() {
        jobs(shared("Whenever a job starts: it does not wait behind one that can't run"), 0, 9, 1, 3, 2)
            .due('w', "state", 1).due('r', "state", 2).due(1, "waiting").due(2, "holder", 1);
        jobs(shared("Whenever a job starts: one without locks runs at once"), 0, 9, 63, 63, 0)
            .due('w', "state", 1).due('r', "state", 2).due(true, "holds", 2).due(1, "waiting");
    }

    private static void lookedAtWhenOneGoesOn() {
        jobs(shared("Whenever a job goes on: it gets its locks if they are free"), 0, 9, 1, 1, 1).due(1, "stop", 1)
            .due(0, "stop", 2).due(0, "end", 0).due(-1, "holder", 0).due(0, "goOn", 2).due('r', "state", 2)
            .due(2, "holder", 0).due(1, "goOn", 1).due('w', "state", 1);
    }

    private static void lookedAtWhenOneIsStopped() {
        jobs(shared("Whenever a job is stopped: the locks that it had not got are free to others"), 0, 9, 1, 3, 3)
            .due(1, "stop", 1).due('w', "state", 2).due(2, "waitingAt", 0).due(0, "end", 0)
            .due('r', "state", 2).due('s', "state", 1).due(2, "holder", 1);
    }

    private static void lookedAtWhenOneIsDone() {
        jobs(shared("Whenever a job is done: in their order"), 0, 1, 1, 1, 1).due(1, "tick", 1)
            .due('r', "state", 1).due('w', "state", 2).due(2, "waitingAt", 0).due(1, "tick", 1).due('r', "state", 2);
    }

    private static void lookedAtWhenOneIsEnded() {
        jobs(shared("Whenever a job is ended: also one that was stopped"), 0, 9, 1, 1, 1).due(2, "stop", 0)
            .due(1, "end", 0).due('r', "state", 1).due('w', "state", 2).due(0, "end", 1).due('r', "state", 2);
    }

    private static void eachOneOfThoseThatCan() {
        Run run = jobs(shared("each one all of whose locks no other job holds: six at once"), 0, 9,
            63, 1, 2, 4, 8, 16, 32, 1);
        run.due(7, "waiting").due(1, "end", 0).due(7, "waitingAt", 0);
        for (int lock = 0; lock < 6; lock++) {
            run.due(lock + 1, "holder", lock).due('r', "state", lock + 1).due(lock + 1, "entryJob", 10 + lock);
        }
        jobs(shared("each one: what the first one takes, the next one does not get"), 0, 9, 3, 1, 3, 2)
            .due(1, "end", 0).due('r', "state", 1).due('w', "state", 2).due('r', "state", 3).due(2, "blockers", 2);
    }

    private static void starting() {
        shared("A job that is started becomes 'w' and is looked at like the others")
            .call("start", 0, 0, 9, 1, false).due(2, "entries").due('w', "entryState", 0).due('r', "entryState", 1)
            .call("start", 0, 0, 9, 1, false).due(3, "entries").due('w', "entryState", 2).due(1, "entryJob", 2)
            .call("start", 0, 0, 9, 0, false).due(5, "entries").due('w', "entryState", 3).due('r', "entryState", 4);
        shared("It is in front if told so; a job that was in front then is behind")
            .call("start", 0, 0, 9, 1, false).refuses(MISSING, "front", 0)
            .call("start", 0, 0, 9, 0, true).due(1, "front", 0)
            .call("start", 0, 0, 9, 0, false).due(1, "front", 0)
            .call("start", 0, 0, 9, 1, true).due('w', "state", 3).due(3, "front", 0).due('r', "state", 1)
            .due(false, "setPrivate", 0, true).due(3, "toBack", 0).refuses(MISSING, "front", 0);
    }
}
