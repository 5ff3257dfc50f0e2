/** Promises 12 to 20: jobs. */
public final class JobsTest extends Cases {
    public static void main(String[] args) {
        start();
        startEdges();
        startRefuses();
        startOrderOfExceptions();
        states("promise 13", "state");
        states("promise 14", "stateByJournal");
        toDo();
        sessionOf();
        front();
        frontEnds();
        toFront();
        toFrontRefuses();
        toBack();
        count();
        Run.tell("JobsTest");
    }

    private static void start() {
        shared("promise 12").due(0, "start", 0, 5, 3, 3, true).due(1, "start", 0, 6, 2, 2, true)
            .due(2, "start", 0, 7, 2, 4, false).due(3, "start", 0, 8, 2, 0, false)
            .due('r', "state", 0).due('w', "state", 1).due('r', "state", 2).due('r', "state", 3)
            .due(1, "front", 0).due(3, "toDo", 0).due(7, "entries").due(1, "waiting");
    }

    private static void startEdges() {
        shared("promise 12, edges").due(0, "start", 0, 0, 1, 0, false).due(1, "start", 0, 99, 50, 63, true)
            .due(0, "commandAt", 0, 1).due(99, "commandAt", 0, 0).due(1, "toDo", 0).due(50, "toDo", 1)
            .due(1, "holder", 0).due(1, "holder", 3).due(1, "holder", 5);
    }

    private static void startRefuses() {
        Run run = shared("promise 12, wrong inputs")
            .refuses(OUTSIDE, "start", 1, 0, 1, 0, false).refuses(OUTSIDE, "start", -1, 0, 1, 0, false)
            .refuses(ARGUMENT, "start", 0, -1, 1, 0, false).refuses(ARGUMENT, "start", 0, 100, 1, 0, false)
            .refuses(ARGUMENT, "start", 0, 0, 0, 0, false).refuses(ARGUMENT, "start", 0, 0, 51, 0, false)
            .refuses(ARGUMENT, "start", 0, 0, -1, 0, false).refuses(ARGUMENT, "start", 0, 0, 1, -1, false)
            .refuses(ARGUMENT, "start", 0, 0, 1, 64, false)
            .refuses(ARGUMENT, "start", 0, 0, Integer.MIN_VALUE, 0, false)
            .refuses(ARGUMENT, "start", 0, 0, 1, Integer.MIN_VALUE, false)
            .due(-1, "drop", 0).refuses(UNSUPPORTED, "start", 0, 0, 1, 0, true).due(0, "start", 0, 0, 1, 0, false);
        for (int i = 1; i < 30; i++) {
            run.due(i, "start", 0, i, 1, 0, false);
        }
        run.refuses(STATE, "start", 0, 0, 1, 0, false).due(-1, "takeUp", 0).refuses(STATE, "start", 0, 0, 1, 0, true)
            .due(30, "tick", 1).refuses(STATE, "start", 0, 0, 1, 0, false);
    }

    private static void startOrderOfExceptions() {
        Run run = shared("promise 12, order").due(-1, "drop", 0);
        for (int i = 0; i < 30; i++) {
            run.due(i, "start", 0, 0, 1, 0, false);
        }
        run.refuses(OUTSIDE, "start", 1, 100, 0, 64, true).refuses(ARGUMENT, "start", 0, 100, 1, 0, true)
            .refuses(ARGUMENT, "start", 0, 0, 51, 0, true).refuses(ARGUMENT, "start", 0, 0, 1, 64, true)
            .refuses(UNSUPPORTED, "start", 0, 0, 1, 0, true).refuses(STATE, "start", 0, 0, 1, 0, false);
    }

    private static void states(String title, String asking) {
        shared(title).refuses(OUTSIDE, asking, 0)
            .call("start", 0, 1, 2, 1, true).call("start", 0, 2, 2, 1, false).call("start", 0, 3, 1, 0, false)
            .due('r', asking, 0).due('w', asking, 1).due('r', asking, 2).due(1, "tick", 1).due('d', asking, 2)
            .due(1, "stop", 0).due('s', asking, 0).due('w', asking, 1).due(0, "end", 0).due('k', asking, 0)
            .due('r', asking, 1).due(0, "stop", 1).due('s', asking, 1).due(0, "goOn", 1).due('r', asking, 1)
            .due(1, "tick", 2).due('d', asking, 1)
            .refuses(OUTSIDE, asking, 3).refuses(OUTSIDE, asking, -1).refuses(OUTSIDE, asking, 30)
            .refuses(OUTSIDE, asking, Integer.MAX_VALUE).refuses(OUTSIDE, asking, Integer.MIN_VALUE);
    }

    private static void toDo() {
        shared("promise 15").refuses(OUTSIDE, "toDo", 0)
            .call("start", 0, 1, 3, 1, true).call("start", 0, 2, 4, 1, false).call("start", 0, 3, 50, 0, false)
            .due(3, "toDo", 0).due(4, "toDo", 1).due(50, "toDo", 2)
            .due(0, "tick", 1).due(2, "toDo", 0).due(4, "toDo", 1).due(49, "toDo", 2)
            .call("stop", 2).due(1, "tick", 3).due(0, "toDo", 0).due(3, "toDo", 1).due(49, "toDo", 2)
            .call("end", 1).due(3, "toDo", 1)
            .refuses(OUTSIDE, "toDo", 3).refuses(OUTSIDE, "toDo", -1);
    }

    private static void sessionOf() {
        shared("promise 16").due(1, "open", false).refuses(OUTSIDE, "sessionOf", 0)
            .call("start", 1, 1, 3, 0, true).call("start", 0, 2, 4, 0, false).call("start", 1, 3, 5, 0, false)
            .due(1, "sessionOf", 0).due(0, "sessionOf", 1).due(1, "sessionOf", 2)
            .call("end", 0).due(1, "sessionOf", 0)
            .refuses(OUTSIDE, "sessionOf", 3).refuses(OUTSIDE, "sessionOf", -1);
    }

    private static void front() {
        shared("promise 17").due(1, "open", true).refuses(MISSING, "front", 0)
            .refuses(OUTSIDE, "front", 2).refuses(OUTSIDE, "front", -1)
            .call("start", 0, 1, 3, 0, false).refuses(MISSING, "front", 0)
            .call("start", 0, 2, 4, 0, true).due(1, "front", 0).refuses(MISSING, "front", 1)
            .call("start", 1, 3, 5, 0, true).due(2, "front", 1).due(1, "front", 0)
            .call("start", 0, 4, 5, 0, true).due(3, "front", 0).due('r', "state", 1)
            .call("stop", 3).due(3, "front", 0);
    }

    private static void frontEnds() {
        shared("promise 17, done and ended").call("start", 0, 1, 2, 0, true).call("start", 0, 2, 1, 0, false)
            .due(1, "tick", 1).due(0, "front", 0).due(1, "tick", 1).refuses(MISSING, "front", 0)
            .call("start", 0, 1, 2, 0, false).call("start", 0, 1, 2, 0, true)
            .call("end", 2).due(3, "front", 0).call("end", 3).refuses(MISSING, "front", 0)
            .call("start", 0, 1, 2, 0, true).due(1, "signal", 0, 'k').refuses(MISSING, "front", 0);
    }

    private static void toFront() {
        shared("promise 18").due(1, "open", false).call("start", 0, 1, 2, 1, false).call("start", 0, 2, 2, 1, false)
            .call("start", 0, 3, 2, 0, false).call("start", 1, 4, 9, 0, false)
            .due(false, "toFront", 0).due(0, "front", 0).due(true, "toFront", 1).due(1, "front", 0)
            .call("stop", 2).due(true, "toFront", 2).due(2, "front", 0).due('s', "state", 2)
            .due(2, "toBack", 0).due(false, "toFront", 0).due(false, "toFront", 3).due(3, "front", 1)
            .due(0, "front", 0);
    }

    private static void toFrontRefuses() {
        shared("promise 18, wrong inputs").refuses(OUTSIDE, "toFront", 0)
            .call("start", 0, 1, 1, 0, true).call("start", 0, 2, 9, 0, false).call("start", 0, 3, 9, 0, false)
            .refuses(OUTSIDE, "toFront", 3).refuses(OUTSIDE, "toFront", -1)
            .refuses(UNSUPPORTED, "toFront", 0).due(1, "tick", 1).refuses(STATE, "toFront", 0)
            .call("end", 1).refuses(STATE, "toFront", 1)
            .due(false, "toFront", 2).due(2, "drop", 0).refuses(UNSUPPORTED, "toFront", 2)
            .refuses(UNSUPPORTED, "toFront", 0).refuses(UNSUPPORTED, "toFront", 1).refuses(OUTSIDE, "toFront", 3)
            .due(2, "toBack", 0).refuses(UNSUPPORTED, "toFront", 2).due(2, "takeUp", 0).due(false, "toFront", 2);
    }

    private static void toBack() {
        shared("promise 19").due(1, "open", false).refuses(MISSING, "toBack", 0)
            .refuses(OUTSIDE, "toBack", 2).refuses(OUTSIDE, "toBack", -1)
            .call("start", 0, 1, 5, 0, true).call("start", 1, 1, 5, 0, true)
            .due(0, "toBack", 0).refuses(MISSING, "toBack", 0).refuses(MISSING, "front", 0).due(1, "front", 1)
            .due('r', "state", 0).due(1, "drop", 1).due(1, "toBack", 1).refuses(MISSING, "front", 1)
            .due('s', "state", 1);
    }

    private static void count() {
        shared("promise 20").due(1, "open", false).due(0, "count", 0, 'r')
            .call("start", 0, 1, 1, 1, false).call("start", 0, 2, 5, 1, false).call("start", 0, 3, 5, 1, false)
            .call("start", 1, 4, 5, 1, false).call("start", 0, 5, 5, 0, false)
            .due(2, "count", 0, 'r').due(2, "count", 0, 'w').due(1, "count", 1, 'w').due(0, "count", 1, 'r')
            .due(1, "tick", 1).due(1, "count", 0, 'd').due(2, "count", 0, 'r').due(1, "count", 0, 'w')
            .call("stop", 1).due(1, "count", 0, 's').call("end", 1).due(1, "count", 0, 'k').due(0, "count", 0, 's')
            .due(0, "count", 1, 'k').due(0, "count", 1, 'd')
            .refuses(OUTSIDE, "count", 2, 'r').refuses(OUTSIDE, "count", -1, 'x').refuses(ARGUMENT, "count", 0, 'x')
            .refuses(ARGUMENT, "count", 0, 'g').refuses(ARGUMENT, "count", 0, 'R')
            .refuses(ARGUMENT, "count", 0, '\0').refuses(ARGUMENT, "count", 0, '\uffff');
    }
}
