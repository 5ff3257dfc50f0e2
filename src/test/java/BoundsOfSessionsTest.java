/** Promises 1 to 11: the bounds of their numbers, what is empty or full, and what is refused. */
public final class BoundsOfSessionsTest extends Cases {
    public static void main(String[] args) {
        newObject();
        open();
        setPrivate();
        drop();
        takeUp();
        isAttached();
        kept();
        commandAt();
        common();
        commonAt();
        search();
        Run.tell("BoundsOfSessionsTest");
    }

    private static void newObject() {
        for (int number : new int[] {0, 1, -1, LEAST, MOST}) {
            Run run = new Run("promise 1: no sessions").refuses(OUTSIDE, "setPrivate", number, true)
                .refuses(OUTSIDE, "commandAt", number, 0).refuses(OUTSIDE, "search", number, 0, 99)
                .refuses(OUTSIDE, "start", number, 0, 1, 0, false).refuses(OUTSIDE, "start", number, 0, 1, 0, true)
                .refuses(OUTSIDE, "count", number, 'r').refuses(OUTSIDE, "signal", number, 's');
            for (String asking : new String[] {"drop", "takeUp", "isAttached", "kept", "front", "toBack"}) {
                run.refuses(OUTSIDE, asking, number);
            }
            run = new Run("promise 1: no jobs");
            for (String asking : new String[] {"state", "stateByJournal", "toDo", "sessionOf", "toFront", "holds",
                    "blockers", "stop", "goOn", "end"}) {
                run.refuses(OUTSIDE, asking, number);
            }
            run = new Run("promise 1: nothing to be told");
            for (String asking : new String[] {"commonAt", "waitingAt", "entryJob", "entryState"}) {
                run.refuses(MISSING, asking, number);
            }
        }
        Run run = new Run("promise 1: nothing").due(0, "common").due(0, "waiting").due(0, "entries").due(0L, "worked")
            .due(0, "tick", 60).refuses(MISSING, "doneShare");
        for (int lock = 0; lock < 6; lock++) {
            run.due(-1, "holder", lock).due(-1, "holderByJobs", lock);
        }
        new Run("promise 1: another object").due(0, "open", false).call("start", 0, 5, 1, 1, true);
        new Run("promise 1: an object knows nothing of another one").due(0, "common").refuses(MISSING, "doneShare")
            .due(0, "open", true).due(0, "kept", 0).due(0, "start", 0, 5, 1, 1, true).due('r', "state", 0);
    }

    private static void open() {
        for (int opened = 0; opened <= 4; opened++) {
            for (boolean isPrivate : new boolean[] {false, true}) {
                Run run = sessions("promise 2: " + opened + " sessions", opened);
                if (opened == 4) {
                    run.refuses(STATE, "open", isPrivate);
                } else {
                    run.due(opened, "open", isPrivate).due(isPrivate, "setPrivate", opened, false)
                        .due(true, "isAttached", opened).due(0, "kept", opened).refuses(MISSING, "front", opened);
                }
            }
        }
        sessions("promise 2: 4 sessions, though all of them are dropped", 4).due(-1, "drop", 0).due(-1, "drop", 1)
            .due(-1, "drop", 2).due(-1, "drop", 3).refuses(STATE, "open", false).refuses(STATE, "open", true);
    }

    /** A call with the number of a session is answered for each of them, and refused beside them. */
    private static void numbers(String title, Object answer, String method, Object... rest) {
        for (int n : new int[] {0, 1, 3, 4}) {
            Run run = outside(sessions(title + ", of " + n + " sessions", n), n, method, rest);
            for (int session = 0; session < n; session++) {
                Object[] args = new Object[rest.length + 1];
                args[0] = session;
                System.arraycopy(rest, 0, args, 1, rest.length);
                run.due(answer, method, args);
            }
        }
    }

    private static void setPrivate() {
        numbers("promise 3: no such session", false, "setPrivate", true);
        numbers("promise 3: no such session", false, "setPrivate", false);
        sessions("promise 3: true if it was private before", 2).due(false, "setPrivate", 0, false)
            .due(false, "setPrivate", 0, true).due(true, "setPrivate", 0, true).due(true, "setPrivate", 0, false)
            .due(false, "setPrivate", 0, false).due(false, "setPrivate", 1, true).due(false, "setPrivate", 0, false);
        Run run = started(shared("promise 3: what is in the common history stays there"),
            0, 1, 2, 3, 4, 5, 6, 7, 8, 9, 10, 11, 12);
        run.due(false, "setPrivate", 0, true).commonHistory(12, 11, 10, 9, 8, 7, 6, 5, 4, 3, 2, 1)
            .history(0, 12, 11, 10, 9, 8, 7, 6, 5);
        shared("promise 3: nothing comes into an empty one").due(false, "setPrivate", 0, true)
            .call("start", 0, 5, 1, 0, false).due(true, "setPrivate", 0, false).commonHistory().history(0, 5);
        shared("promise 3: also of a session that is dropped").due(-1, "drop", 0).due(false, "setPrivate", 0, true)
            .due(true, "setPrivate", 0, true).due(false, "isAttached", 0);
    }

    private static void drop() {
        numbers("promise 4: no such session", -1, "drop");
        sessions("promise 4: it is dropped", 2).due(-1, "drop", 1).refuses(STATE, "drop", 1).due(-1, "drop", 0)
            .refuses(STATE, "drop", 0).due(-1, "takeUp", 1).due(-1, "drop", 1).refuses(STATE, "drop", 1);
        Run run = many(shared("promise 4: its job in front, the last one of thirty"), 0, 9, 29);
        run.due(29, "start", 0, 0, 9, 0, true).due(29, "drop", 0).due('s', "state", 29).due(29, "count", 0, 'r')
            .refuses(STATE, "drop", 0);
    }

    private static void takeUp() {
        for (int n : new int[] {0, 1, 4}) {
            outside(sessions("promise 5: no such session, of " + n, n), n, "takeUp");
        }
        Run run = sessions("promise 5: it is attached", 4);
        for (int session = 0; session < 4; session++) {
            run.refuses(STATE, "takeUp", session).due(-1, "drop", session).due(-1, "takeUp", session)
                .refuses(STATE, "takeUp", session);
        }
        many(shared("promise 5: the last one of thirty goes on"), 0, 9, 29).due(29, "start", 0, 0, 9, 0, true)
            .due(29, "drop", 0).due(29, "takeUp", 0).due('r', "state", 29).refuses(STATE, "takeUp", 0);
    }

    private static void isAttached() {
        numbers("promise 6: no such session", true, "isAttached");
        sessions("promise 6: each one for itself", 4).due(-1, "drop", 0).due(-1, "drop", 3).due(false, "isAttached", 0)
            .due(true, "isAttached", 1).due(true, "isAttached", 2).due(false, "isAttached", 3);
    }

    private static void kept() {
        numbers("promise 7: no such session", 0, "kept");
        for (int number : new int[] {0, 1, 7, 8, 9, 30}) {
            many(sessions("promise 7: " + number + " commands", 2), 1, 1, number).due(Math.min(8, number), "kept", 1)
                .due(0, "kept", 0);
        }
        Run run = shared("promise 7: a command that comes again counts again");
        started(run, 0, 5, 5, 5, 5, 5, 5, 5).due(7, "kept", 0);
        started(run, 0, 5).due(8, "kept", 0);
        started(run, 0, 5).due(8, "kept", 0);
    }

    private static void commandAt() {
        for (int n : new int[] {0, 1, 4}) {
            outside(outside(sessions("promise 8: no such session, of " + n, n), n, "commandAt", 0), n, "commandAt", -1);
        }
        for (int number : new int[] {0, 1, 7, 8, 9, 30}) {
            Run run = many(shared("promise 8: " + number + " commands"), 0, 1, number);
            int kept = Math.min(8, number);
            for (int back = 0; back < kept; back++) {
                run.due(number - 1 - back, "commandAt", 0, back);
            }
            for (int back : new int[] {-1, kept, kept + 1, LEAST, LEAST + 1, MOST, MOST - 1}) {
                run.refuses(MISSING, "commandAt", 0, back);
            }
        }
    }

    private static void common() {
        for (int number : new int[] {0, 1, 11, 12, 13, 30}) {
            many(shared("promise 9: " + number + " commands"), 0, 1, number).due(Math.min(12, number), "common");
            many(new Run("promise 9: none of a private session").due(0, "open", true), 0, 1, number).due(0, "common");
        }
        started(shared("promise 9: the same one"), 0, 5, 5, 5).due(1, "common");
    }

    private static void commonAt() {
        for (int number : new int[] {0, 1, 11, 12, 13, 30}) {
            Run run = many(shared("promise 10: " + number + " commands"), 0, 1, number);
            int kept = Math.min(12, number);
            for (int back = 0; back < kept; back++) {
                run.due(number - 1 - back, "commonAt", back);
            }
            for (int back : new int[] {-1, kept, kept + 1, LEAST, LEAST + 1, MOST, MOST - 1}) {
                run.refuses(MISSING, "commonAt", back);
            }
        }
    }

    private static void search() {
        rangesOfASearch();
        fromTheLastCommandBack();
        thenTheCommonHistory();
    }

    private static void rangesOfASearch() {
        for (int n : new int[] {0, 1, 4}) {
            outside(sessions("promise 11: no such session, of " + n, n), n, "search", 0, 99);
        }
        started(shared("promise 11: the least command and the greatest one"), 0, 0, 99, 50)
            .due(0, "search", 0, 0, 0).due(99, "search", 0, 99, 99).due(50, "search", 0, 0, 99)
            .due(50, "search", 0, 50, 50).due(50, "search", 0, 49, 50).due(50, "search", 0, 50, 51)
            .refuses(MISSING, "search", 0, 49, 49).refuses(MISSING, "search", 0, 51, 51)
            .refuses(MISSING, "search", 0, 1, 49).refuses(MISSING, "search", 0, 51, 98)
            .due(50, "search", 0, 1, 50).due(50, "search", 0, 50, 98)
            .refuses(ARGUMENT, "search", 0, -1, 0).refuses(ARGUMENT, "search", 0, -1, -1)
            .refuses(ARGUMENT, "search", 0, 99, 100).refuses(ARGUMENT, "search", 0, 100, 100)
            .refuses(ARGUMENT, "search", 0, 1, 0).refuses(ARGUMENT, "search", 0, 99, 98)
            .refuses(ARGUMENT, "search", 0, 50, 49).refuses(ARGUMENT, "search", 0, 100, 99)
            .refuses(ARGUMENT, "search", 0, LEAST, 99).refuses(ARGUMENT, "search", 0, 0, MOST)
            .refuses(ARGUMENT, "search", 0, LEAST, LEAST).refuses(ARGUMENT, "search", 0, MOST, MOST)
            .refuses(ARGUMENT, "search", 0, MOST, LEAST);
        shared("promise 11: empty histories").refuses(MISSING, "search", 0, 0, 99)
            .refuses(ARGUMENT, "search", 0, -1, 99).refuses(ARGUMENT, "search", 0, 1, 0);
    }

    private static void fromTheLastCommandBack() {
        started(shared("promise 11: the command that is found first"), 0, 1, 20, 10, 30, 5)
            .due(5, "search", 0, 0, 99).due(30, "search", 0, 6, 99).due(10, "search", 0, 6, 29)
            .due(20, "search", 0, 11, 29).due(1, "search", 0, 0, 4).due(10, "search", 0, 10, 20);
        Run run = started(new Run("promise 11: the oldest one that is kept").due(0, "open", true),
            0, 90, 1, 2, 3, 4, 5, 6, 7);
        run.due(90, "search", 0, 80, 99);
        started(run, 0, 8).refuses(MISSING, "search", 0, 80, 99).due(1, "search", 0, 1, 1);
    }

    private static void thenTheCommonHistory() {
        Run run = started(shared("promise 11: the oldest one of the common history"),
            0, 90, 1, 2, 3, 4, 5, 6, 7, 8, 9, 10, 11);
        run.history(0, 11, 10, 9, 8, 7, 6, 5, 4).due(90, "search", 0, 80, 99).due(1, "search", 0, 1, 1);
        started(run, 0, 12).refuses(MISSING, "search", 0, 80, 99).due(1, "search", 0, 1, 1);
        // 3 and 2 are in the common history alone: the last one of them is found first.
        run.due(3, "search", 0, 1, 3).due(2, "search", 0, 1, 2);
        Run two = started(sessions("promise 11: its own history goes first", 3), 0, 7, 40);
        started(two, 1, 45).due(40, "search", 0, 40, 50).due(45, "search", 1, 40, 50).due(45, "search", 2, 40, 50)
            .due(45, "search", 0, 41, 50).due(7, "search", 1, 0, 39).due(7, "search", 2, 0, 39)
            .refuses(MISSING, "search", 2, 46, 99)
            .due(false, "setPrivate", 2, true).refuses(MISSING, "search", 2, 40, 50)
            .due(false, "setPrivate", 1, true).refuses(MISSING, "search", 1, 0, 39).due(45, "search", 1, 0, 99)
            .due(45, "search", 0, 41, 50).due(true, "setPrivate", 2, false).due(45, "search", 2, 40, 50)
            .due(-1, "drop", 2).due(45, "search", 2, 40, 50);
    }
}
