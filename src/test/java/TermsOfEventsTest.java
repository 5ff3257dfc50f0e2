/** "Terms", Signals to Exceptions: each sentence that names a boundary case, by the words in its title. */
public final class TermsOfEventsTest extends Cases {
    public static void main(String[] args) {
        signals();
        dropping();
        takingUp();
        ticks();
        histories();
        commonHistory();
        exceptions();
        Run.tell("TermsOfEventsTest");
    }

    // Signals.

    private static void signals() {
        stopping();
        goingOn();
        ending();
        toAllForWhichItIsPossible();
        toThirtyJobsOrNone();
        byRisingNumbers();
        lookedAtBehindEachOne();
    }

    private static void stopping() {
        jobs(shared("A job that runs or waits can be stopped; one that waited is in the order no more"),
            0, 1, 1, 1, 1, 0, 0).due(2, "stop", 0).due(1, "stop", 1).due(2, "waitingAt", 0)
            .refuses(MISSING, "waitingAt", 1).due(1, "end", 4).due(1, "tick", 1).due('d', "state", 3)
            .refuses(STATE, "stop", 0).refuses(STATE, "stop", 1).refuses(STATE, "stop", 3).refuses(STATE, "stop", 4)
            .due(0, "stop", 2).due(0, "waiting").refuses(MISSING, "waitingAt", 0);
    }

    private static void goingOn() {
        jobs(shared("A stopped job can go on: it becomes 'r' if it holds its locks"), 0, 9, 1, 1).due(1, "stop", 0)
            .due(4, "entries").due(1, "goOn", 0).due('r', "state", 0).due(5, "entries").due('r', "entryState", 4)
            .due(1, "waiting").due(1, "waitingAt", 0);
        jobs(shared("it becomes 'r' if it needs no locks and has run"), 0, 9, 0).due(0, "stop", 0)
            .due(true, "holds", 0).due(0, "goOn", 0).due('r', "state", 0).due(4, "entries").due('r', "entryState", 3);
        jobs(shared("and otherwise 'w', as the last one in the order"), 0, 9, 1, 1, 1, 1).due(2, "stop", 1)
            .due(3, "goOn", 1).due('w', "state", 1).due(1, "waitingAt", 2).refuses(MISSING, "waitingAt", 3);
        jobs(shared("and otherwise 'w', also if its locks are free by now"), 0, 9, 1, 1).due(0, "stop", 1)
            .due(0, "end", 0).due(5, "entries").due(0, "goOn", 1).due(7, "entries")
            .due('w', "entryState", 5).due('r', "entryState", 6).due('r', "state", 1);
        jobs(shared("A stopped job can go on: no other one can"), 0, 1, 1, 1, 0, 0).due(1, "end", 2)
            .refuses(STATE, "goOn", 0).refuses(STATE, "goOn", 1).refuses(STATE, "goOn", 2)
            .due(2, "tick", 1).refuses(STATE, "goOn", 0).refuses(STATE, "goOn", 1).refuses(STATE, "goOn", 3);
    }

    private static void ending() {
        jobs(shared("A job that is not done or ended can be ended"), 0, 1, 0, 1, 1, 1, 2, 0).due(1, "stop", 3)
            .due(1, "stop", 4).due(1, "end", 0).due('k', "state", 0).due(0, "end", 2).due('k', "state", 2)
            .due(0, "end", 3).due('k', "state", 3).due(0, "end", 4).due('k', "state", 4).due(-1, "holder", 1)
            .due(0, "end", 1).due('k', "state", 1).due(-1, "holder", 0).due(1, "tick", 1)
            .refuses(STATE, "end", 0).refuses(STATE, "end", 1).refuses(STATE, "end", 2).refuses(STATE, "end", 3)
            .refuses(STATE, "end", 4).refuses(STATE, "end", 5).due(5, "count", 0, 'k').due(1, "count", 0, 'd');
    }

    /** Job 0 is done, 1 was ended, 2 runs, 3 waits, 4 was stopped while it ran and 5 while it waited. */
    private static Run oneInEachState(String title) {
        Run run = jobs(sessions(title, 2), 1, 1, 0, 0);
        jobs(run, 1, 9, 1, 1, 2, 1).due(1, "stop", 5).due(1, "stop", 4).due(1, "end", 1).due(1, "tick", 1);
        return jobs(run, 0, 9, 0).states("dkrwss");
    }

    private static void toAllForWhichItIsPossible() {
        oneInEachState("A signal is sent to all of its jobs for which it is possible: s").due(2, "signal", 1, 's')
            .states("dkssss").due(0, "signal", 1, 's').due('r', "state", 6);
        oneInEachState("A signal is sent to all of its jobs for which it is possible: g").due(2, "signal", 1, 'g')
            .states("dkrwrw").due(0, "signal", 1, 'g').due('r', "state", 6)
            .due(3, "waitingAt", 0).due(5, "waitingAt", 1);
        oneInEachState("A signal is sent to all of its jobs for which it is possible: k").due(4, "signal", 1, 'k')
            .states("dkkkkk").due(0, "signal", 1, 'k').due('r', "state", 6);
        for (char sign : "sgk".toCharArray()) {
            oneInEachState("to no job of another session: " + sign).due(sign == 'g' ? 0 : 1, "signal", 0, sign)
                .states("dkrwss");
        }
    }

    private static void toThirtyJobsOrNone() {
        Run none = shared("to all of its jobs: none");
        for (char sign : "sgk".toCharArray()) {
            none.due(0, "signal", 0, sign).due(0, "entries");
        }
        many(shared("to all of its jobs: thirty"), 0, 9, 30).due(0, "signal", 0, 'g').due(30, "signal", 0, 's')
            .due(30, "count", 0, 's').due(0, "signal", 0, 's').due(30, "signal", 0, 'g').due(30, "count", 0, 'r')
            .due(30, "signal", 0, 'k').due(30, "count", 0, 'k').due(0, "signal", 0, 'k').due(0, "signal", 0, 'g');
    }

    private static void byRisingNumbers() {
        // Job 2 is in front, and job 1 is behind job 3 in the order; the numbers alone count.
        Run run = jobs(shared("by rising numbers"), 0, 9, 1, 1, 0, 1).due(false, "toFront", 2)
            .due(1, "stop", 1).due(2, "goOn", 1).due(8, "entries").due(4, "signal", 0, 's');
        for (int job = 0; job < 4; job++) {
            run.due(job, "entryJob", 8 + job).due('s', "entryState", 8 + job);
        }
        run.due(4, "signal", 0, 'g').due(16, "entries");
        for (int job = 0; job < 4; job++) {
            run.due(job, "entryJob", 12 + job).due("rwrw".charAt(job), "entryState", 12 + job);
        }
        run.due(1, "waitingAt", 0).due(3, "waitingAt", 1);
    }

    private static void lookedAtBehindEachOne() {
        jobs(shared("the jobs that wait are looked at behind each one: k"), 0, 9, 1, 1, 1)
            .due(3, "signal", 0, 'k').journal("0w 0r 1w 2w 0k 1r 1k 2r 2k");
        Run other = jobs(sessions("the jobs that wait are looked at behind each one: k, jobs of another session", 2),
            0, 9, 1, 2);
        jobs(other, 1, 9, 3, 1, 2).due(2, "signal", 0, 'k').states("kkwrr").due(1, "waiting")
            .journal("0w 0r 1w 1r 2w 3w 4w 0k 3r 1k 4r");
        jobs(shared("the jobs that wait are looked at behind each one: g"), 0, 9, 1, 1, 1)
            .due(1, "stop", 1).due(0, "stop", 2).due(0, "end", 0).due(2, "signal", 0, 'g')
            .states("krw").journal("0w 0r 1w 2w 1s 2s 0k 1w 1r 2w");
        jobs(shared("the jobs that wait are looked at behind each one: s"), 0, 9, 1, 1, 2)
            .due(3, "signal", 0, 's').journal("0w 0r 1w 2w 2r 0s 1s 2s");
    }

    // Dropping.

    private static void dropping() {
        shared("When a session is dropped, its job in front, if it runs").call("start", 0, 0, 9, 1, true)
            .due(0, "drop", 0).due('s', "state", 0).due(0, "front", 0).due(true, "holds", 0).due(false, "isAttached", 0);
        jobs(shared("or waits, is stopped, and stays in front"), 0, 9, 1).call("start", 0, 0, 9, 1, true)
            .due(1, "waiting").due(1, "drop", 0).due('s', "state", 1).due(1, "front", 0).due(0, "waiting")
            .due(false, "holds", 1).due('r', "state", 0);
        shared("not if it is stopped").call("start", 0, 0, 9, 1, true).due(0, "stop", 0).due(3, "entries")
            .due(-1, "drop", 0).due('s', "state", 0).due(0, "front", 0).due(3, "entries");
        shared("not if there are no jobs").due(-1, "drop", 0).due(0, "entries").due(false, "isAttached", 0);
        jobs(shared("not if all jobs are behind"), 0, 9, 0, 0).due(-1, "drop", 0).states("rr");
        shared("not if it was sent behind").call("start", 0, 0, 9, 1, true).due(0, "toBack", 0)
            .due(-1, "drop", 0).due('r', "state", 0);
        shared("not if it is done").call("start", 0, 0, 1, 1, true).due(1, "tick", 1).due(-1, "drop", 0);
        shared("not if it was ended").call("start", 0, 0, 1, 1, true).due(0, "end", 0).due(-1, "drop", 0);
        jobs(shared("Jobs behind are not touched by this"), 0, 9, 1, 1, 2).due(1, "stop", 2)
            .call("start", 0, 0, 9, 0, true).due(3, "drop", 0).states("rwss")
            .due(3, "takeUp", 0).states("rwsr");
        sessions("Jobs of other sessions are not touched by this", 4).call("start", 0, 0, 9, 0, true)
            .call("start", 3, 0, 9, 0, true).due(1, "drop", 3).states("rs").due(true, "isAttached", 0)
            .due(false, "isAttached", 3).due(0, "drop", 0).due(1, "takeUp", 3).states("sr");
    }

    private static Run dropped(String title) {
        return shared(title).call("start", 0, 0, 9, 1, true).due(0, "drop", 0);
    }

    private static void takingUp() {
        dropped("When it is taken up again, this job goes on").due(0, "takeUp", 0).due('r', "state", 0)
            .due(0, "front", 0).due(true, "isAttached", 0).due(4, "entries");
        dropped("in front or not: behind").due(0, "toBack", 0).due(0, "takeUp", 0).due('r', "state", 0)
            .refuses(MISSING, "front", 0);
        dropped("if it is stopped still: ended").due(0, "end", 0).due(-1, "takeUp", 0).due('k', "state", 0);
        dropped("if it is stopped still: done").due(0, "goOn", 0).due(1, "tick", 9).due(-1, "takeUp", 0)
            .due('d', "state", 0);
        dropped("if it is stopped still: it runs").due(0, "goOn", 0).due(-1, "takeUp", 0).due('r', "state", 0)
            .due(4, "entries");
        dropped("and has not gone on since").due(0, "goOn", 0).due(0, "stop", 0).due(-1, "takeUp", 0)
            .due('s', "state", 0).due(true, "isAttached", 0);
        dropped("and has not gone on since, by a signal").due(1, "signal", 0, 'g').due(1, "signal", 0, 's')
            .due(-1, "takeUp", 0).due('s', "state", 0);
        waitsWhenTakenUp();
        takenUpAgainAndAgain();
        shared("no job was stopped by the drop").call("start", 0, 0, 9, 1, true).due(0, "stop", 0).due(-1, "drop", 0)
            .due(-1, "takeUp", 0).due('s', "state", 0).due(0, "front", 0).due(true, "isAttached", 0);
        shared("no job was there at the drop").due(-1, "drop", 0).call("start", 0, 0, 9, 1, false).due(0, "stop", 0)
            .due(-1, "takeUp", 0).due('s', "state", 0);
    }

    private static void waitsWhenTakenUp() {
        jobs(shared("this job goes on: it waits"), 0, 9, 1).call("start", 0, 0, 9, 1, true)
            .call("start", 0, 0, 9, 1, false).due(1, "drop", 0).due(1, "takeUp", 0).due('w', "state", 1)
            .due(2, "waitingAt", 0).due(1, "waitingAt", 1).due(1, "front", 0);
        jobs(shared("and has not gone on since, though it waited only"), 0, 9, 1).call("start", 0, 0, 9, 1, true)
            .due(1, "drop", 0).due(1, "goOn", 1).due('w', "state", 1).due(0, "stop", 1).due(-1, "takeUp", 0)
            .due('s', "state", 1);
        jobs(shared("if it is stopped still: it waits by now"), 0, 9, 1).call("start", 0, 0, 9, 1, true)
            .due(1, "drop", 0).due(1, "goOn", 1).due(-1, "takeUp", 0).due('w', "state", 1).due(1, "waiting");
    }

    private static void takenUpAgainAndAgain() {
        Run run = dropped("dropped and taken up again and again");
        for (int i = 0; i < 3; i++) {
            run.due(0, "takeUp", 0).refuses(STATE, "takeUp", 0).due('r', "state", 0).due(0, "drop", 0)
                .refuses(STATE, "drop", 0).due('s', "state", 0);
        }
        run.due(0, "goOn", 0).due(0, "stop", 0).due(-1, "takeUp", 0)
            // It is stopped still, but not by this drop.
            .due(-1, "drop", 0).due(-1, "takeUp", 0).due('s', "state", 0)
            .due(0, "goOn", 0).due(0, "drop", 0).due(0, "takeUp", 0).due('r', "state", 0);
        shared("each session has its own").due(1, "open", true).call("start", 0, 0, 9, 0, true)
            .call("start", 1, 0, 9, 0, true).due(0, "drop", 0).due(1, "drop", 1).due(0, "goOn", 0).due(0, "stop", 0)
            .due(1, "takeUp", 1).due(-1, "takeUp", 0).states("sr");
    }

    // Ticks.

    private static void ticks() {
        thatRunsAtTheBeginning();
        oneTickLessToDo();
        risingNumbersInATick();
        notInFrontAnyMore();
        lookedAtWithinATick();
        ticksOfADroppedSession();
    }

    private static void thatRunsAtTheBeginning() {
        jobs(shared("each job that runs at the beginning of the tick: not one that waits"), 0, 1, 1, 1, 1)
            .due(1, "tick", 1).states("drw").due(1, "toDo", 1).due(1, "toDo", 2).due(1, "worked")
            .due(1, "tick", 1).states("ddr").due(1, "tick", 60).due(3, "worked");
        jobs(shared("each job that runs at the beginning of the tick: not a lower one that waits"), 0, 2, 1, 1, 1)
            .due(1, "stop", 1).due(0, "end", 0).due(1, "goOn", 1).states("kwr")
            .due(1, "tick", 2).states("krd").due(2, "toDo", 1).due(2, "worked");
        jobs(shared("each job that runs at the beginning of the tick: not one that is stopped"), 0, 3, 1, 0)
            .due(0, "stop", 0).due(0, "tick", 1).due(3, "toDo", 0).due(2, "toDo", 1).due(0, "goOn", 0)
            .due(1, "tick", 2).states("rd").due(1, "toDo", 0);
        shared("no job runs").due(0, "tick", 60).due(0, "worked").due(0, "entries");
    }

    private static void oneTickLessToDo() {
        jobs(shared("one that has none to do any more is done"), 0, 2, 0).due(0, "tick", 1).due('r', "state", 0)
            .due(1, "toDo", 0).due(1, "tick", 1).due('d', "state", 0).due(0, "toDo", 0)
            .due(0, "tick", 1).due('d', "state", 0).due(0, "toDo", 0).due(2, "worked");
        for (int ticks = 49; ticks <= 51; ticks++) {
            jobs(shared("one that has none to do any more is done: " + ticks + " ticks"), 0, 50, 0)
                .due(ticks < 50 ? 0 : 1, "tick", ticks).due(ticks < 50 ? 'r' : 'd', "state", 0)
                .due(Math.max(0, 50 - ticks), "toDo", 0).due(Math.min(50, ticks), "worked");
        }
    }

    private static void risingNumbersInATick() {
        Run run = jobs(sessions("by rising numbers", 2), 1, 2, 4, 0);
        jobs(run, 0, 2, 1, 0).due(false, "toFront", 3).due(4, "tick", 2).due(12, "entries");
        for (int job = 0; job < 4; job++) {
            run.due(job, "entryJob", 8 + job).due('d', "entryState", 8 + job);
        }
    }

    private static void notInFrontAnyMore() {
        sessions("is not in front any more", 2).call("start", 0, 0, 1, 0, true).call("start", 1, 0, 2, 0, true)
            .call("start", 0, 0, 9, 0, false).due(1, "tick", 1).refuses(MISSING, "front", 0).due(1, "front", 1)
            .due(1, "tick", 1).refuses(MISSING, "front", 1);
        jobs(shared("another one is in front still"), 0, 1, 0).call("start", 0, 0, 9, 0, true).due(1, "tick", 1)
            .due(1, "front", 0);
    }

    private static void lookedAtWithinATick() {
        jobs(shared("and the jobs that wait are looked at, behind each one"), 0, 1, 1, 2, 3, 1, 2)
            .due(2, "tick", 1).states("ddwrr").journal("0w 0r 1w 1r 2w 3w 4w 0d 3r 1d 4r");
        jobs(shared("and the jobs that wait are looked at, in each tick of several"), 0, 1, 1, 1, 1)
            .due(2, "tick", 2).journal("0w 0r 1w 2w 0d 1r 1d 2r");
    }

    private static void ticksOfADroppedSession() {
        dropped("A job in front of a dropped session does not work").due(0, "tick", 60).due(9, "toDo", 0);
        dropped("one that runs because it was sent a signal works, too").due(1, "signal", 0, 'g').due(0, "tick", 1)
            .due(8, "toDo", 0).due(0, "front", 0).due(1, "tick", 8).refuses(MISSING, "front", 0)
            .due(-1, "takeUp", 0).due('d', "state", 0);
        dropped("one that goes on works, too").due(0, "goOn", 0).due(0, "tick", 1).due(8, "toDo", 0);
        jobs(dropped("jobs behind work"), 0, 9, 0).due(0, "tick", 1).due(8, "toDo", 1).due(9, "toDo", 0);
    }

    // Histories.

    private static void histories() {
        shared("A session has a history: none").due(0, "kept", 0).refuses(MISSING, "commandAt", 0, 0);
        started(shared("in the order in which they were started, each time anew"), 0, 5, 7, 5, 5)
            .history(0, 5, 5, 7, 5);
        Run run = shared("at most 8 of them are kept, the oldest ones are dropped");
        for (int command = 1; command <= 20; command++) {
            started(run, 0, command).due(Math.min(8, command), "kept", 0).due(command, "commandAt", 0, 0)
                .due(Math.max(1, command - 7), "commandAt", 0, Math.min(8, command) - 1)
                .refuses(MISSING, "commandAt", 0, Math.min(8, command));
        }
        started(started(sessions("the commands of its jobs, not of others", 2), 0, 1, 2), 1, 3)
            .history(0, 2, 1).history(1, 3);
        started(shared("also when they are done or ended"), 0, 1, 2).due(0, "end", 0).due(1, "tick", 1)
            .history(0, 2, 1).commonHistory(2, 1);
        started(new Run("also when it is private").due(0, "open", true), 0, 1, 2).history(0, 2, 1).commonHistory();
        shared("also when a job waits").call("start", 0, 3, 9, 1, false).call("start", 0, 4, 9, 1, false)
            .history(0, 4, 3).commonHistory(4, 3);
        started(shared("also when it is dropped").due(-1, "drop", 0), 0, 6).history(0, 6).commonHistory(6);
    }

    private static void commonHistory() {
        new Run("the common history: none").due(0, "common").refuses(MISSING, "commonAt", 0);
        keepsAtMostTwelve();
        atMostOnce();
        privateOrShared();
    }

    private static void keepsAtMostTwelve() {
        Run run = sessions("the common history keeps at most 12", 4);
        for (int command = 1; command <= 28; command++) {
            started(run, command % 4, command).due(Math.min(12, command), "common").due(command, "commonAt", 0)
                .due(Math.max(1, command - 11), "commonAt", Math.min(12, command) - 1)
                .refuses(MISSING, "commonAt", Math.min(12, command));
        }
        // 16 was dropped, so that it is a new one when it comes again, and 17 goes for it.
        started(run, 0, 16).commonHistory(16, 28, 27, 26, 25, 24, 23, 22, 21, 20, 19, 18);
    }

    private static void atMostOnce() {
        Run run = sessions("when it comes again, the older one is taken out: the last one, the first one, between", 2);
        started(run, 0, 1).commonHistory(1);
        started(run, 1, 1).commonHistory(1);
        started(run, 0, 2, 3).commonHistory(3, 2, 1);
        started(run, 0, 3).commonHistory(3, 2, 1);
        started(run, 1, 2).commonHistory(2, 3, 1);
        started(run, 1, 1).commonHistory(1, 2, 3);
        Run full = started(shared("taken out, and none is dropped: the history is full"),
            0, 1, 2, 3, 4, 5, 6, 7, 8, 9, 10, 11, 12);
        full.commonHistory(12, 11, 10, 9, 8, 7, 6, 5, 4, 3, 2, 1);
        started(full, 0, 12).commonHistory(12, 11, 10, 9, 8, 7, 6, 5, 4, 3, 2, 1);
        started(full, 0, 1).commonHistory(1, 12, 11, 10, 9, 8, 7, 6, 5, 4, 3, 2);
        started(full, 0, 7).commonHistory(7, 1, 12, 11, 10, 9, 8, 6, 5, 4, 3, 2);
        started(full, 0, 0).commonHistory(0, 7, 1, 12, 11, 10, 9, 8, 6, 5, 4, 3);
        full.history(0, 0, 7, 1, 12, 12, 11, 10, 9);
    }

    private static void privateOrShared() {
        Run run = started(new Run("A session is private or shared, as at first").due(0, "open", true), 0, 1)
            .due(0, "common").due(1, "open", false);
        started(run, 1, 2).commonHistory(2);
        started(run.due(true, "setPrivate", 0, false), 0, 3).commonHistory(3, 2);
        started(run.due(false, "setPrivate", 1, true), 1, 4).commonHistory(3, 2);
        // A command that is private now does not take out the one that was shared.
        started(run, 1, 2).commonHistory(3, 2);
        run.history(0, 3, 1).history(1, 2, 4, 2);
    }

    // Exceptions.

    private static void exceptions() {
        startChangesNothing();
        firstOfStart();
        firstOfOthers();
    }

    private static void startChangesNothing() {
        Run run = started(shared("A method that throws an exception changes nothing: start"), 0, 5)
            .refuses(OUTSIDE, "start", 1, 6, 1, 0, true).refuses(ARGUMENT, "start", 0, 6, 0, 0, true)
            .refuses(ARGUMENT, "start", 0, 6, 1, 64, true).refuses(ARGUMENT, "start", 0, 100, 1, 0, true)
            .due(-1, "drop", 0).refuses(UNSUPPORTED, "start", 0, 6, 1, 1, true);
        run.history(0, 5).commonHistory(5).due(2, "entries").due(-1, "holder", 0)
            .refuses(OUTSIDE, "state", 1).due(1, "start", 0, 7, 1, 0, false);
    }

    private static void firstOfStart() {
        Run run = many(shared("If several exceptions apply, the one that is listed first is thrown: start"), 0, 1, 30)
            .due(-1, "drop", 0);
        int[][] wrong = {{100, 1, 0}, {0, 51, 0}, {0, 1, 64}, {-1, 0, -1}};
        for (int[] numbers : wrong) {
            for (boolean inFront : new boolean[] {false, true}) {
                run.refuses(OUTSIDE, "start", 1, numbers[0], numbers[1], numbers[2], inFront)
                    .refuses(ARGUMENT, "start", 0, numbers[0], numbers[1], numbers[2], inFront);
            }
        }
        run.refuses(OUTSIDE, "start", 1, 0, 1, 0, true).refuses(OUTSIDE, "start", -1, 0, 1, 0, false)
            .refuses(UNSUPPORTED, "start", 0, 0, 1, 0, true).refuses(STATE, "start", 0, 0, 1, 0, false)
            .due(-1, "takeUp", 0).refuses(STATE, "start", 0, 0, 1, 0, true);
    }

    private static void firstOfOthers() {
        started(shared("If several exceptions apply, the one that is listed first is thrown"), 0, 5)
            .refuses(OUTSIDE, "commandAt", 1, -1).refuses(OUTSIDE, "commandAt", -1, 1)
            .refuses(OUTSIDE, "search", 1, 6, 5).refuses(OUTSIDE, "search", -1, 6, 7)
            .refuses(ARGUMENT, "search", 0, 7, 6).refuses(ARGUMENT, "search", 0, 6, 100)
            .refuses(OUTSIDE, "count", 1, 'x').refuses(OUTSIDE, "signal", 1, 'x')
            .call("start", 0, 0, 1, 0, true).due(2, "tick", 1).call("start", 0, 0, 9, 0, false).due(0, "end", 2)
            .due(-1, "drop", 0)
            // Their session is dropped, and they are done or ended.
            .refuses(UNSUPPORTED, "toFront", 0).refuses(UNSUPPORTED, "toFront", 2).refuses(OUTSIDE, "toFront", 3)
            .due(-1, "takeUp", 0).refuses(STATE, "toFront", 0).refuses(STATE, "toFront", 2);
    }
}
