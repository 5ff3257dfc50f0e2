/** Promises 21 to 31: the bounds of their numbers, what is empty or full, and what is refused. */
public final class BoundsOfLocksTest extends Cases {
    public static void main(String[] args) {
        holder("promise 21", "holder");
        holder("promise 22", "holderByJobs");
        holds();
        waiting();
        waitingAt();
        blockers();
        stop();
        goOn();
        end();
        signal();
        tick();
        Run.tell("BoundsOfLocksTest");
    }

    /** A call with the number of a job is refused beside the jobs that there are. */
    private static void numbers(String title, String method) {
        for (int n : new int[] {0, 1, 30}) {
            outside(many(shared(title + ": no such job, of " + n), 0, 1, n), n, method);
        }
    }

    /** Of so many jobs all but the first one wait for its locks. */
    private static Run crowd(String title, int number) {
        Run run = shared(title);
        for (int job = 0; job < number; job++) {
            run.due(job, "start", 0, 0, 9, 63, false);
        }
        return run;
    }

    private static void holder(String title, String asking) {
        for (int started : new int[] {0, 1, 30}) {
            Run run = crowd(title + ": no such lock", started);
            for (int lock : new int[] {-1, 6, 7, 32, 63, LEAST, MOST}) {
                run.refuses(ARGUMENT, asking, lock);
            }
            for (int lock = 0; lock < 6; lock++) {
                run.due(started == 0 ? -1 : 0, asking, lock);
            }
        }
        Run run = jobs(many(shared(title + ": the last one of thirty"), 0, 9, 28), 0, 9, 1, 33).due(28, asking, 0)
            .due(-1, asking, 5).due(0, "end", 28).due(29, asking, 0).due(29, asking, 5).due(-1, asking, 1);
        run.due(0, "stop", 29).due(29, asking, 5).due(0, "end", 29).due(-1, asking, 0).due(-1, asking, 5);
        jobs(shared(title + ": none, for one that waits holds none"), 0, 9, 1, 3).due(-1, asking, 1)
            .due(0, "stop", 1).due(-1, asking, 1).due(0, "end", 0).due(-1, asking, 0).due(-1, asking, 1);
        jobs(shared(title + ": none behind the last tick"), 0, 1, 32).due(0, asking, 5).due(1, "tick", 1)
            .due(-1, asking, 5);
    }

    private static void holds() {
        numbers("promise 23", "holds");
        jobs(shared("promise 23: one that needs locks, in each state"), 0, 1, 1, 1, 1, 2).due(true, "holds", 0)
            .due(false, "holds", 1).due(2, "stop", 0).due(true, "holds", 0).due(1, "stop", 1).due(false, "holds", 1)
            .due(0, "end", 0).due(false, "holds", 0).due(true, "holds", 2).due(0, "end", 1).due(false, "holds", 1)
            .due(2, "tick", 1).due(false, "holds", 2).due(false, "holds", 3);
        jobs(shared("promise 23: one that needs none does so while it runs, and while it is stopped"), 0, 1, 0, 0)
            .due(true, "holds", 0).due(0, "stop", 0).due(true, "holds", 0).due(1, "tick", 1).due(true, "holds", 0)
            .due(false, "holds", 1).due(0, "end", 0).due(false, "holds", 0);
        shared("promise 23: one that needs none, stopped by a drop").call("start", 0, 0, 1, 0, true).due(0, "drop", 0)
            .due(true, "holds", 0).due(0, "takeUp", 0).due(true, "holds", 0);
    }

    private static void waiting() {
        for (int number : new int[] {0, 1, 2, 30}) {
            crowd("promise 24: " + number + " jobs", number).due(Math.max(0, number - 1), "waiting");
        }
        crowd("promise 24: 29 that wait, then none", 30).due(28, "stop", 29).due(28, "waiting").due(29, "goOn", 29)
            .due(29, "waiting").due(30, "signal", 0, 's').due(0, "waiting").due(30, "signal", 0, 'g')
            .due(29, "waiting").due(30, "signal", 0, 'k').due(0, "waiting");
    }

    private static void waitingAt() {
        for (int number : new int[] {0, 1, 2, 3, 30}) {
            Run run = crowd("promise 25: of " + number + " jobs", number);
            int waiters = Math.max(0, number - 1);
            for (int rank = 0; rank < waiters; rank++) {
                run.due(rank + 1, "waitingAt", rank);
            }
            for (int rank : new int[] {-1, waiters, waiters + 1, LEAST, MOST}) {
                run.refuses(MISSING, "waitingAt", rank);
            }
        }
    }

    private static void blockers() {
        numbers("promise 26", "blockers");
        jobs(shared("promise 26: it does not wait"), 0, 1, 1, 0, 0, 2, 1).due(1, "end", 1).due(1, "stop", 2)
            .refuses(STATE, "blockers", 0).refuses(STATE, "blockers", 1).refuses(STATE, "blockers", 2)
            .due(1, "blockers", 4).due(2, "tick", 1).refuses(STATE, "blockers", 3).refuses(STATE, "blockers", 4);
        crowd("promise 26: one holds all locks, and those that wait hold none", 30).due(1, "blockers", 1)
            .due(1, "blockers", 29).due(28, "stop", 1).refuses(STATE, "blockers", 1);
        Run six = jobs(shared("promise 26: six hold one lock each"), 0, 9, 1, 2, 4, 8, 16, 32, 63, 21, 2);
        six.due(6, "blockers", 6).due(3, "blockers", 7).due(1, "blockers", 8)
            .due(3, "stop", 0).due(6, "blockers", 6).due(3, "end", 0).due(5, "blockers", 6).due(2, "blockers", 7)
            .due(2, "end", 1).due(8, "holder", 1).due(5, "blockers", 6).due(2, "end", 8).due(4, "blockers", 6)
            .due(2, "end", 2).due(3, "blockers", 6).due(1, "blockers", 7)
            // Job 7 holds three locks now, and counts once.
            .due(1, "end", 4).due('r', "state", 7).due(3, "blockers", 6).due(1, "end", 3).due(2, "blockers", 6)
            .due(1, "end", 5).due(1, "blockers", 6).due(0, "end", 7).refuses(STATE, "blockers", 6)
            .due('r', "state", 6);
    }

    private static void stop() {
        numbers("promise 27", "stop");
        crowd("promise 27: the number of jobs that wait then", 30).due(29, "stop", 0).due(28, "stop", 1)
            .due(27, "stop", 29).due(28, "waitingAt", 26).refuses(MISSING, "waitingAt", 27);
        jobs(shared("promise 27: none waits then"), 0, 9, 1, 1, 0).due(0, "stop", 1).due(0, "stop", 2).due(0, "stop", 0)
            .states("sss");
        jobs(shared("promise 27: it neither runs nor waits"), 0, 1, 1, 1, 0, 0).due(0, "stop", 1).due(0, "end", 2)
            .refuses(STATE, "stop", 1).refuses(STATE, "stop", 2).due(2, "tick", 1).refuses(STATE, "stop", 0)
            .refuses(STATE, "stop", 3).states("dskd");
        shared("promise 27: it was stopped by a drop").call("start", 0, 0, 9, 0, true).due(0, "drop", 0)
            .refuses(STATE, "stop", 0).due(0, "takeUp", 0).due(0, "stop", 0);
    }

    private static void goOn() {
        numbers("promise 28", "goOn");
        crowd("promise 28: the number of jobs that wait then", 30).due(29, "stop", 0).due(28, "stop", 1)
            .due(29, "goOn", 1).due(1, "waitingAt", 28).due(29, "goOn", 0).due(0, "holder", 0).due('r', "state", 0);
        jobs(shared("promise 28: none waits then"), 0, 9, 1, 1, 0).due(0, "stop", 1).due(0, "stop", 2).due(0, "goOn", 2)
            .due(0, "end", 0).due(0, "goOn", 1).states("krr").due(1, "holder", 0);
        jobs(shared("promise 28: it is not stopped"), 0, 1, 1, 1, 0, 0).due(1, "end", 2).refuses(STATE, "goOn", 0)
            .refuses(STATE, "goOn", 1).refuses(STATE, "goOn", 2).refuses(STATE, "goOn", 3).due(2, "tick", 1)
            .refuses(STATE, "goOn", 0).refuses(STATE, "goOn", 3).due(0, "stop", 1).due(0, "goOn", 1)
            .refuses(STATE, "goOn", 1).states("drkd");
    }

    private static void end() {
        numbers("promise 29", "end");
        crowd("promise 29: the number of jobs that wait then", 30).due(28, "end", 29).due(27, "end", 1)
            .due(26, "end", 0).due('r', "state", 2).due(2, "holder", 5).due(3, "waitingAt", 0);
        jobs(shared("promise 29: none waits then"), 0, 9, 1, 1, 0).due(1, "end", 2).due(0, "end", 1).due(0, "end", 0)
            .states("kkk").due(-1, "holder", 0);
        jobs(shared("promise 29: it is done or ended"), 0, 1, 0, 0).due(0, "end", 0).refuses(STATE, "end", 0)
            .due(1, "tick", 1).refuses(STATE, "end", 1).refuses(STATE, "end", 0).states("kd");
        jobs(shared("promise 29: it is not in front any more"), 0, 9, 0, 0, 1).due(false, "toFront", 1)
            .due(0, "end", 0).due(1, "front", 0).due(0, "end", 1).refuses(MISSING, "front", 0)
            .due(false, "toFront", 2).due(2, "drop", 0).due(2, "front", 0).due(0, "end", 2)
            .refuses(MISSING, "front", 0).due(-1, "takeUp", 0);
    }

    private static void signal() {
        for (int n : new int[] {0, 1, 4}) {
            for (char sign : "sgk".toCharArray()) {
                Run run = outside(sessions("promise 30: no such session, of " + n, n), n, "signal", sign);
                for (int session = 0; session < n; session++) {
                    run.due(0, "signal", session, sign);
                }
            }
        }
        noSuchLetter("promise 30: there is no such signal", "signal", "sgk");
        crowd("promise 30: one holds the locks that 29 wait for", 30).due(0, "signal", 0, 'g').due(30, "signal", 0, 's')
            .due(0, "waiting").due(0, "holder", 0).due(0, "signal", 0, 's').due(30, "signal", 0, 'g')
            .due(29, "waiting").due(0, "holder", 0).due(30, "signal", 0, 'k').due(-1, "holder", 0)
            .due(0, "signal", 0, 'k').due(0, "signal", 0, 'g').due(0, "signal", 0, 's').due(30, "count", 0, 'k');
        shared("promise 30: to the job in front of a session that is dropped").call("start", 0, 0, 9, 0, true)
            .due(0, "drop", 0).due(0, "signal", 0, 's').due(1, "signal", 0, 'g').due('r', "state", 0)
            .due(0, "front", 0).due(false, "isAttached", 0).due(1, "signal", 0, 'k').refuses(MISSING, "front", 0);
    }

    private static void tick() {
        for (int number : new int[] {0, 1, 30}) {
            Run run = many(shared("promise 31: between 1 and 60, of " + number + " jobs"), 0, 50, number);
            for (int ticks : new int[] {0, 61, -1, -60, LEAST, MOST}) {
                run.refuses(ARGUMENT, "tick", ticks);
            }
            run.due(0, "tick", 1).due((long) number, "worked").due(number, "tick", 60).due(50L * number, "worked")
                .refuses(ARGUMENT, "tick", 0).refuses(ARGUMENT, "tick", 61).due(0, "tick", 60).due(0, "tick", 1);
        }
        for (int ticks = 58; ticks <= 60; ticks++) {
            Run run = shared("promise 31: one behind another, " + ticks + " ticks");
            for (int job = 0; job < 30; job++) {
                run.due(job, "start", 0, 0, 2, 63, false);
            }
            run.due(ticks / 2, "tick", ticks).due(ticks / 2, "count", 0, 'd').due((long) ticks, "worked")
                .due(ticks == 60 ? -1 : 29, "holder", 0);
        }
        Run run = many(shared("promise 31: one tick after another"), 0, 3, 2).due(0, "tick", 1).due(0, "tick", 1)
            .states("rr").due(2, "tick", 1).states("dd").due(0, "tick", 1);
        jobs(run, 0, 50, 0).due(0, "tick", 49).due(1, "tick", 1);
    }
}
