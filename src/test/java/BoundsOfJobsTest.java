/** Promises 12 to 20: the bounds of their numbers, what is empty or full, and what is refused. */
public final class BoundsOfJobsTest extends Cases {
    public static void main(String[] args) {
        start();
        state("promise 13", "state");
        state("promise 14", "stateByJournal");
        toDo();
        sessionOf();
        front();
        toFront();
        toBack();
        count();
        Run.tell("BoundsOfJobsTest");
    }

    private static void start() {
        for (int n : new int[] {0, 1, 4}) {
            Run run = sessions("promise 12: no such session, of " + n, n);
            outside(outside(run, n, "start", 0, 1, 0, false), n, "start", 99, 50, 63, true);
        }
        shared("promise 12: just inside").due(0, "start", 0, 0, 1, 0, false).due(1, "start", 0, 99, 50, 63, true)
            .history(0, 99, 0).due(1, "toDo", 0).due(50, "toDo", 1).due(1, "front", 0).states("rr");
        for (boolean inFront : new boolean[] {false, true}) {
            Run run = shared("promise 12: one of the numbers is out of range");
            for (int command : new int[] {-1, 100, LEAST, MOST}) {
                run.refuses(ARGUMENT, "start", 0, command, 1, 0, inFront);
            }
            for (int work : new int[] {0, 51, -1, LEAST, MOST}) {
                run.refuses(ARGUMENT, "start", 0, 0, work, 0, inFront);
            }
            for (int locks : new int[] {-1, 64, -63, LEAST, MOST}) {
                run.refuses(ARGUMENT, "start", 0, 0, 1, locks, inFront);
            }
            run.due(0, "start", 0, 0, 1, 0, inFront);
        }
        shared("promise 12: it is to be in front, and the session is dropped").due(1, "open", false)
            .due(0, "start", 0, 0, 1, 0, true).due(1, "start", 0, 0, 1, 0, false).due(0, "drop", 0)
            .refuses(UNSUPPORTED, "start", 0, 0, 1, 0, true).due(2, "start", 0, 0, 1, 0, false)
            .due(3, "start", 1, 0, 1, 0, true).due(0, "takeUp", 0).due(4, "start", 0, 0, 1, 0, true);
        for (boolean inFront : new boolean[] {false, true}) {
            many(shared("promise 12: there are 30 jobs"), 0, 1, 29).due(29, "start", 0, 0, 1, 0, inFront)
                .refuses(STATE, "start", 0, 0, 1, 0, false).refuses(STATE, "start", 0, 0, 1, 0, true)
                .due(30, "tick", 1).refuses(STATE, "start", 0, 0, 1, 0, inFront);
        }
    }

    private static void state(String title, String asking) {
        for (int n : new int[] {0, 1, 29, 30}) {
            Run run = outside(many(shared(title + ": no such job, of " + n), 0, 1, n), n, asking);
            for (int job = 0; job < n; job++) {
                run.due('r', asking, job);
            }
        }
        // One way through the states after another, each one told behind each call.
        jobs(shared(title + ": each state"), 0, 2, 1, 1).due('w', asking, 1).call("stop", 1).due('s', asking, 1)
            .call("goOn", 1).due('w', asking, 1).call("end", 0).due('k', asking, 0).due('r', asking, 1)
            .call("stop", 1).due('s', asking, 1).call("goOn", 1).due('r', asking, 1).call("tick", 1)
            .due('r', asking, 1).call("tick", 1).due('d', asking, 1).due('k', asking, 0);
        jobs(shared(title + ": from each state to the end"), 0, 9, 1, 1, 2, 1).call("stop", 2).call("stop", 3)
            .call("end", 3).due('k', asking, 3).call("end", 2).due('k', asking, 2).call("end", 1)
            .due('k', asking, 1).due('r', asking, 0).call("end", 0).due('k', asking, 0);
    }

    private static void toDo() {
        for (int n : new int[] {0, 1, 30}) {
            outside(many(shared("promise 15: no such job, of " + n), 0, 1, n), n, "toDo");
        }
        shared("promise 15: work from 1 to 50").call("start", 0, 0, 1, 0, false).call("start", 0, 0, 50, 0, false)
            .due(1, "toDo", 0).due(50, "toDo", 1).due(1, "tick", 1).due(0, "toDo", 0).due(49, "toDo", 1)
            .due(0, "tick", 48).due(1, "toDo", 1).due(1, "tick", 1).due(0, "toDo", 1).due(0, "tick", 60)
            .due(0, "toDo", 0).due(0, "toDo", 1);
        jobs(shared("promise 15: no work while it waits or is stopped, and none behind its end"), 0, 9, 1, 1, 0, 0)
            .call("stop", 2).call("tick", 2).call("end", 3).call("tick", 2)
            .due(5, "toDo", 0).due(9, "toDo", 1).due(9, "toDo", 2).due(7, "toDo", 3);
    }

    private static void sessionOf() {
        for (int n : new int[] {0, 1, 30}) {
            outside(many(shared("promise 16: no such job, of " + n), 0, 1, n), n, "sessionOf");
        }
        Run run = sessions("promise 16: each session", 4);
        for (int job = 0; job < 30; job++) {
            run.call("start", 3 - job % 4, 0, 1, 0, false).due(3 - job % 4, "sessionOf", job);
        }
        run.due(30, "tick", 1).due(3, "sessionOf", 0).due(2, "sessionOf", 29);
    }

    private static void front() {
        for (int n : new int[] {0, 1, 4}) {
            Run run = outside(sessions("promise 17: no such session, of " + n, n), n, "front");
            for (int session = 0; session < n; session++) {
                run.refuses(MISSING, "front", session);
            }
        }
        many(shared("promise 17: the first and the last of thirty jobs"), 0, 1, 30).refuses(MISSING, "front", 0)
            .due(false, "toFront", 0).due(0, "front", 0).due(true, "toFront", 29).due(29, "front", 0)
            .due(30, "tick", 1).refuses(MISSING, "front", 0);
        shared("promise 17: in each state").call("start", 0, 0, 1, 1, true).due(0, "front", 0)
            .call("stop", 0).due(0, "front", 0).call("goOn", 0).call("start", 0, 0, 1, 1, true).due(1, "front", 0)
            .due('w', "state", 1).due(1, "drop", 0).due(1, "front", 0).due(1, "takeUp", 0).due(1, "front", 0)
            .due(1, "tick", 1).due(1, "front", 0).due(1, "tick", 1).refuses(MISSING, "front", 0);
        shared("promise 17: none behind a signal to end").call("start", 0, 0, 1, 1, true).due(1, "signal", 0, 's')
            .due(0, "front", 0).due(1, "signal", 0, 'k').refuses(MISSING, "front", 0);
    }

    private static void toFront() {
        for (int n : new int[] {0, 1, 30}) {
            outside(many(shared("promise 18: no such job, of " + n), 0, 1, n), n, "toFront");
        }
        jobs(shared("promise 18: true if another one was in front"), 0, 9, 0, 0).due(false, "toFront", 0)
            .due(true, "toFront", 1).due(true, "toFront", 0).due(0, "toBack", 0).due(false, "toFront", 0)
            .due(0, "end", 0).due(false, "toFront", 1).due(1, "front", 0);
        jobs(jobs(sessions("promise 18: one of another session does not count", 2), 0, 9, 0), 1, 9, 0)
            .due(false, "toFront", 0).due(false, "toFront", 1).due(0, "front", 0).due(1, "front", 1);
        jobs(shared("promise 18: it is in front already"), 0, 9, 0, 0).due(false, "toFront", 0)
            .refuses(UNSUPPORTED, "toFront", 0).due(true, "toFront", 1).refuses(UNSUPPORTED, "toFront", 1)
            .due(0, "stop", 1).refuses(UNSUPPORTED, "toFront", 1).due(-1, "drop", 0)
            .refuses(UNSUPPORTED, "toFront", 1);
        jobs(shared("promise 18: its session is dropped"), 0, 9, 0).due(1, "open", false).due(-1, "drop", 0)
            .refuses(UNSUPPORTED, "toFront", 0).call("start", 1, 0, 9, 0, false).due(false, "toFront", 1)
            .due(-1, "takeUp", 0).due(false, "toFront", 0);
        jobs(shared("promise 18: it is done or ended"), 0, 1, 0, 0, 0).due(0, "end", 0).refuses(STATE, "toFront", 0)
            .due(2, "tick", 1).refuses(STATE, "toFront", 1).refuses(STATE, "toFront", 2);
        jobs(shared("promise 18: each other state"), 0, 9, 1, 1, 2, 1).call("stop", 2).call("stop", 3)
            .due(false, "toFront", 0).due(true, "toFront", 1).due(true, "toFront", 2).due(true, "toFront", 3)
            .states("rwss").due(3, "front", 0);
    }

    private static void toBack() {
        for (int n : new int[] {0, 1, 4}) {
            Run run = outside(sessions("promise 19: no such session, of " + n, n), n, "toBack");
            for (int session = 0; session < n; session++) {
                run.refuses(MISSING, "toBack", session);
            }
        }
        many(shared("promise 19: there is none"), 0, 1, 2).refuses(MISSING, "toBack", 0).due(false, "toFront", 1)
            .due(1, "toBack", 0).refuses(MISSING, "toBack", 0).due(false, "toFront", 0).due(2, "tick", 1)
            .refuses(MISSING, "toBack", 0);
        shared("promise 19: in each state").call("start", 0, 0, 9, 1, true).due(0, "toBack", 0).due('r', "state", 0)
            .call("start", 0, 0, 9, 1, true).due(1, "toBack", 0).due('w', "state", 1).due(1, "waiting")
            .due(false, "toFront", 0).due(0, "drop", 0).due(0, "toBack", 0).due('s', "state", 0)
            .refuses(MISSING, "toBack", 0).due(0, "takeUp", 0).due('r', "state", 0).refuses(MISSING, "toBack", 0);
        sessions("promise 19: of its session alone", 2).call("start", 0, 0, 9, 0, true)
            .call("start", 1, 0, 9, 0, true).due(1, "toBack", 1).due(0, "front", 0).refuses(MISSING, "front", 1);
    }

    private static void count() {
        for (int n : new int[] {0, 1, 4}) {
            for (char state : "rwsdk".toCharArray()) {
                Run run = outside(sessions("promise 20: no such session, of " + n, n), n, "count", state);
                for (int session = 0; session < n; session++) {
                    run.due(0, "count", session, state);
                }
            }
        }
        Run run = many(shared("promise 20: thirty jobs or none"), 0, 1, 30).due(1, "open", false);
        thirty(run, 'r');
        thirty(run.call("signal", 0, 's'), 's');
        thirty(run.call("signal", 0, 'g').call("tick", 1), 'd');
        thirty(many(shared("promise 20: thirty that were ended"), 0, 1, 30).due(1, "open", false)
            .call("signal", 0, 'k'), 'k');
        Run waiting = shared("promise 20: 29 that wait").due(1, "open", false).call("start", 1, 0, 1, 1, false);
        for (int job = 1; job < 30; job++) {
            waiting.call("start", 0, 0, 1, 1, false);
        }
        waiting.due(29, "count", 0, 'w').due(0, "count", 0, 'r').due(0, "count", 1, 'w').due(1, "count", 1, 'r');
        noSuchLetter("promise 20: no such state", "count", "rwsdk");
    }

    private static void thirty(Run run, char state) {
        for (char other : "rwsdk".toCharArray()) {
            run.due(other == state ? 30 : 0, "count", 0, other).due(0, "count", 1, other);
        }
    }
}
