/** Promises 1 to 11: sessions and histories. */
public final class SessionsTest extends Cases {
    public static void main(String[] args) {
        newObject();
        open();
        setPrivate();
        drop();
        dropOfAJobThatWaits();
        dropWithoutAJobToStop();
        takeUp();
        takeUpGoesOnOnlyOnce();
        takeUpOfAJobBehind();
        takeUpOfAJobWithoutLocks();
        isAttached();
        kept();
        commandAt();
        common();
        commonAt();
        search();
        searchRefuses();
        Run.tell("SessionsTest");
    }

    private static void newObject() {
        new Run("promise 1").due(0, "common").due(0, "waiting").due(0, "entries").due(0, "worked")
            .refuses(OUTSIDE, "isAttached", 0).refuses(OUTSIDE, "state", 0)
            .refuses(MISSING, "commonAt", 0).refuses(MISSING, "waitingAt", 0)
            .refuses(MISSING, "entryJob", 0).refuses(MISSING, "doneShare")
            .due(-1, "holder", 0).due(-1, "holderByJobs", 5).due(0, "tick", 1);
    }

    private static void open() {
        new Run("promise 2").due(0, "open", false).due(1, "open", true).due(2, "open", true).due(3, "open", false)
            .refuses(STATE, "open", false).refuses(STATE, "open", true)
            .due(false, "setPrivate", 0, false).due(true, "setPrivate", 1, true)
            .due(true, "setPrivate", 2, true).due(false, "setPrivate", 3, true);
    }

    private static void setPrivate() {
        Run run = shared("promise 3").due(false, "setPrivate", 0, true).due(true, "setPrivate", 0, true)
            .due(true, "setPrivate", 0, false).due(false, "setPrivate", 0, false)
            .refuses(OUTSIDE, "setPrivate", 1, true).refuses(OUTSIDE, "setPrivate", -1, true)
            .refuses(OUTSIDE, "setPrivate", Integer.MIN_VALUE, true)
            .refuses(OUTSIDE, "setPrivate", Integer.MAX_VALUE, true);
        started(run, 0, 5).due(1, "common").due(false, "setPrivate", 0, true).due(1, "common").due(5, "commonAt", 0);
        started(run, 0, 6).due(1, "common").due(5, "commonAt", 0).due(2, "kept", 0);
        run.due(true, "setPrivate", 0, false).due(1, "common");
        started(run, 0, 7).due(2, "common").due(7, "commonAt", 0).due(5, "commonAt", 1);
    }

    private static void drop() {
        shared("promise 4").call("start", 0, 1, 5, 1, true).call("start", 0, 2, 5, 2, false)
            .refuses(OUTSIDE, "drop", 1).refuses(OUTSIDE, "drop", -1)
            .due(0, "drop", 0).due('s', "state", 0).due('r', "state", 1).due(false, "isAttached", 0)
            .due(0, "front", 0).due(true, "holds", 0).due(0, "holder", 0)
            .refuses(STATE, "drop", 0).refuses(OUTSIDE, "drop", 1);
    }

    private static void dropOfAJobThatWaits() {
        shared("promise 4, a job that waits").call("start", 0, 1, 5, 1, false).call("start", 0, 2, 5, 1, true)
            .call("start", 0, 3, 5, 1, false).due(2, "waiting")
            .due(1, "drop", 0).due('s', "state", 1).due(1, "waiting").due(2, "waitingAt", 0)
            .due(0, "end", 0).due('r', "state", 2).due('s', "state", 1).due(1, "front", 0);
    }

    private static void dropWithoutAJobToStop() {
        shared("promise 4, nothing to stop").due(-1, "drop", 0).due(-1, "takeUp", 0)
            .call("start", 0, 1, 5, 0, false).due(-1, "drop", 0).due('r', "state", 0).due(-1, "takeUp", 0)
            .due(false, "toFront", 0).due(0, "stop", 0).due(-1, "drop", 0).due(0, "front", 0)
            .due(-1, "takeUp", 0).due('s', "state", 0);
    }

    private static void takeUp() {
        shared("promise 5").call("start", 0, 1, 5, 1, true)
            .refuses(STATE, "takeUp", 0).refuses(OUTSIDE, "takeUp", 1).refuses(OUTSIDE, "takeUp", -1)
            .due(0, "drop", 0).due(0, "takeUp", 0).due('r', "state", 0).due(true, "isAttached", 0).due(0, "front", 0)
            .refuses(STATE, "takeUp", 0)
            .due(0, "drop", 0).due(0, "end", 0).due(-1, "takeUp", 0).due('k', "state", 0);
    }

    private static void takeUpGoesOnOnlyOnce() {
        shared("promise 5, gone on since").call("start", 0, 1, 5, 1, true).due(0, "drop", 0)
            .due(0, "goOn", 0).due('r', "state", 0).due(0, "stop", 0).due(-1, "takeUp", 0).due('s', "state", 0)
            .due(0, "goOn", 0).due(0, "drop", 0).due(1, "signal", 0, 'g').due(1, "signal", 0, 's')
            .due(-1, "takeUp", 0).due('s', "state", 0)
            .due(0, "goOn", 0).due(0, "drop", 0).due(0, "goOn", 0).due(-1, "takeUp", 0).due('r', "state", 0)
            .due(0, "drop", 0).due(0, "takeUp", 0).due(0, "stop", 0).due(-1, "drop", 0).due(-1, "takeUp", 0);
    }

    private static void takeUpOfAJobBehind() {
        shared("promise 5, behind").call("start", 0, 1, 5, 1, true).call("start", 0, 2, 5, 0, false)
            .due(0, "drop", 0).due(0, "toBack", 0).due(0, "stop", 1).due(0, "takeUp", 0)
            .due('r', "state", 0).due('s', "state", 1).refuses(MISSING, "front", 0);
    }

    private static void takeUpOfAJobWithoutLocks() {
        shared("promise 5, without locks").call("start", 0, 1, 5, 1, false).call("start", 0, 2, 5, 1, true)
            .call("start", 0, 3, 5, 1, false).due(1, "drop", 0).due(1, "takeUp", 0).due('w', "state", 1)
            .due(2, "waitingAt", 0).due(1, "waitingAt", 1)
            .due(1, "drop", 0).due(0, "end", 0).due('r', "state", 2).due(0, "end", 2).due('s', "state", 1)
            .due(1, "takeUp", 0).due('r', "state", 1).due(1, "holder", 0);
    }

    private static void isAttached() {
        shared("promise 6").due(true, "isAttached", 0).due(1, "open", true).due(-1, "drop", 1)
            .due(true, "isAttached", 0).due(false, "isAttached", 1).due(-1, "takeUp", 1).due(true, "isAttached", 1)
            .refuses(OUTSIDE, "isAttached", 2).refuses(OUTSIDE, "isAttached", -1)
            .refuses(OUTSIDE, "isAttached", 4).refuses(OUTSIDE, "isAttached", Integer.MIN_VALUE);
    }

    private static void kept() {
        Run run = shared("promise 7").due(0, "kept", 0).due(1, "open", true)
            .refuses(OUTSIDE, "kept", 2).refuses(OUTSIDE, "kept", -1);
        for (int i = 1; i <= 10; i++) {
            started(run, 0, 7).due(Math.min(i, 8), "kept", 0).due(0, "kept", 1);
        }
        started(run, 1, 3).due(1, "kept", 1).due(8, "kept", 0);
    }

    private static void commandAt() {
        Run run = shared("promise 8").due(1, "open", true).refuses(MISSING, "commandAt", 0, 0)
            .refuses(OUTSIDE, "commandAt", 2, 0).refuses(OUTSIDE, "commandAt", -1, -1);
        started(run, 0, 10, 20, 10).due(10, "commandAt", 0, 0).due(20, "commandAt", 0, 1).due(10, "commandAt", 0, 2)
            .refuses(MISSING, "commandAt", 0, 3).refuses(MISSING, "commandAt", 0, -1)
            .refuses(MISSING, "commandAt", 0, Integer.MAX_VALUE).refuses(MISSING, "commandAt", 0, Integer.MIN_VALUE)
            .refuses(MISSING, "commandAt", 1, 0);
        started(run, 0, 1, 2, 3, 4, 5).due(10, "commandAt", 0, 7).due(5, "commandAt", 0, 0);
        started(run, 0, 6).due(20, "commandAt", 0, 7).due(6, "commandAt", 0, 0).due(5, "commandAt", 0, 1)
            .refuses(MISSING, "commandAt", 0, 8);
        started(run, 0, 7, 8).due(1, "commandAt", 0, 7);
    }

    private static void common() {
        Run run = shared("promise 9").due(0, "common").due(1, "open", true).due(2, "open", false);
        started(run, 0, 5).due(1, "common");
        started(run, 1, 6).due(1, "common");
        started(run, 2, 5).due(1, "common");
        started(run, 2, 7).due(2, "common");
        for (int i = 1; i <= 14; i++) {
            started(run, i % 2 * 2, 20 + i).due(Math.min(12, 2 + i), "common");
        }
    }

    private static void commonAt() {
        Run run = shared("promise 10").refuses(MISSING, "commonAt", 0).due(1, "open", false);
        started(run, 0, 1, 2, 3).due(3, "commonAt", 0).due(2, "commonAt", 1).due(1, "commonAt", 2)
            .refuses(MISSING, "commonAt", 3).refuses(MISSING, "commonAt", -1)
            .refuses(MISSING, "commonAt", Integer.MAX_VALUE).refuses(MISSING, "commonAt", Integer.MIN_VALUE);
        started(run, 1, 2).due(2, "commonAt", 0).due(3, "commonAt", 1).due(1, "commonAt", 2).due(3, "common");
        started(run, 1, 11, 12, 13, 14, 15, 16, 17, 18, 19).due(12, "common").due(1, "commonAt", 11);
        // The older one goes before the oldest one would: all twelve stay.
        started(run, 0, 12).due(12, "common").due(12, "commonAt", 0).due(1, "commonAt", 11).due(13, "commonAt", 7);
        started(run, 0, 1).due(12, "common").due(1, "commonAt", 0).due(3, "commonAt", 11);
        started(run, 0, 50).due(12, "common").due(50, "commonAt", 0).due(2, "commonAt", 11)
            .refuses(MISSING, "commonAt", 12);
    }

    private static void search() {
        Run run = shared("promise 11").due(1, "open", true).due(2, "open", false);
        started(run, 0, 10, 30, 20, 99, 0);
        run.due(20, "search", 0, 10, 30).due(30, "search", 0, 21, 30).due(10, "search", 0, 10, 10)
            .due(0, "search", 0, 0, 99).due(99, "search", 0, 99, 99).due(0, "search", 0, 0, 0)
            .refuses(MISSING, "search", 0, 11, 19).refuses(MISSING, "search", 0, 31, 98)
            .due(20, "search", 2, 10, 30).refuses(MISSING, "search", 1, 0, 99);
        started(run, 1, 25);
        run.due(25, "search", 1, 0, 99).refuses(MISSING, "search", 1, 0, 24).refuses(MISSING, "search", 0, 25, 25)
            .due(true, "setPrivate", 1, false).due(20, "search", 1, 1, 24).due(25, "search", 1, 0, 99);
        started(run, 2, 26);
        run.due(25, "search", 1, 20, 30).due(26, "search", 0, 26, 26).due(20, "search", 0, 20, 30);
        started(run, 0, 1, 2, 3, 4, 5, 6, 7, 8).due(26, "search", 0, 20, 30);
    }

    private static void searchRefuses() {
        Run run = shared("promise 11, wrong inputs");
        started(run, 0, 5).due(5, "search", 0, 5, 5)
            .refuses(OUTSIDE, "search", 1, 5, 4).refuses(OUTSIDE, "search", -1, 0, 99)
            .refuses(ARGUMENT, "search", 0, -1, 5).refuses(ARGUMENT, "search", 0, 5, 4)
            .refuses(ARGUMENT, "search", 0, 0, 100).refuses(ARGUMENT, "search", 0, 100, 100)
            .refuses(ARGUMENT, "search", 0, Integer.MIN_VALUE, Integer.MAX_VALUE)
            .refuses(ARGUMENT, "search", 0, 0, -1).refuses(MISSING, "search", 0, 6, 99);
    }
}
