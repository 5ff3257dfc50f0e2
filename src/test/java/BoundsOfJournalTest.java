/** Promises 32 to 36: the bounds of their numbers, what is empty or full, and what is refused. */
public final class BoundsOfJournalTest extends Cases {
    public static void main(String[] args) {
        entries();
        refusedCallsWriteNothing();
        oneForEachTime();
        entry("promise 33", "entryJob");
        entry("promise 34", "entryState");
        worked();
        doneShare();
        Run.tell("BoundsOfJournalTest");
    }

    private static void entries() {
        new Run("promise 32: none").due(0, "entries").due(0, "open", false).due(0, "tick", 60).due(-1, "drop", 0)
            .due(-1, "takeUp", 0).due(0, "signal", 0, 'k').due(0, "entries");
        shared("promise 32: the first one included").call("start", 0, 0, 1, 1, false).due(2, "entries")
            .call("start", 0, 0, 1, 1, false).due(3, "entries").journal("0w 0r 1w");
        many(shared("promise 32: thirty jobs"), 0, 1, 30).due(60, "entries").due(30, "tick", 1).due(90, "entries")
            .due(0, "tick", 60).due(90, "entries");
    }

    private static void refusedCallsWriteNothing() {
        shared("promise 32: nothing is written by what is refused").call("start", 0, 0, 1, 1, false)
            .refuses(STATE, "goOn", 0).refuses(ARGUMENT, "start", 0, 0, 0, 0, false).refuses(OUTSIDE, "end", 1)
            .refuses(ARGUMENT, "signal", 0, 'x').refuses(ARGUMENT, "tick", 0).refuses(STATE, "takeUp", 0)
            .due(0, "end", 0).refuses(STATE, "end", 0).refuses(STATE, "stop", 0).journal("0w 0r 0k");
    }

    private static void oneForEachTime() {
        jobs(shared("promise 32: one for each time a job comes into a state"), 0, 2, 1, 1).due(1, "stop", 0)
            .due(1, "goOn", 0).due(0, "stop", 1).due(1, "goOn", 1).due(1, "tick", 2).due(0, "end", 1)
            .journal("0w 0r 1w 0s 0r 1s 1w 0d 1r 1k");
        shared("promise 32: one for each time, by drop and takeUp").call("start", 0, 0, 9, 0, true).due(0, "drop", 0)
            .due(0, "takeUp", 0).due(0, "drop", 0).due(0, "toBack", 0).due(0, "takeUp", 0)
            .journal("0w 0r 0s 0r 0s 0r");
        shared("promise 32: none for being in front or behind").call("start", 0, 0, 9, 0, true).due(0, "toBack", 0)
            .due(false, "toFront", 0).due(0, "toBack", 0).due(0, "tick", 8).journal("0w 0r");
    }

    private static void entry(String title, String asking) {
        // The rows that keep the journal grow at some of these sizes.
        for (int written : new int[] {0, 2, 63, 64, 65, 127, 128, 129, 257, 300}) {
            Run run = shared(title + ": of " + written + " entries");
            if (written > 0) {
                run.call("start", 0, 0, 1, 0, false);
            }
            for (int entry = 2; entry < written; entry++) {
                run.call(entry % 2 == 0 ? "stop" : "goOn", 0);
            }
            run.due(written, "entries");
            for (int entry = 0; entry < written; entry++) {
                char state = entry == 0 ? 'w' : "rs".charAt(1 - entry % 2);
                entryDue(run, 0, state, asking, entry);
            }
            for (int entry : new int[] {-1, written, written + 1, LEAST, MOST}) {
                run.refuses(MISSING, asking, entry);
            }
        }
        Run run = many(shared(title + ": of thirty jobs"), 0, 1, 30).due(30, "tick", 1);
        for (int job = 0; job < 30; job++) {
            entryDue(run, job, 'w', asking, 2 * job);
            entryDue(run, job, 'r', asking, 2 * job + 1);
            entryDue(run, job, 'd', asking, 60 + job);
        }
        run.refuses(MISSING, asking, 90).refuses(MISSING, asking, -1);
    }

    private static void entryDue(Run run, int job, char state, String asking, int entry) {
        if (asking.equals("entryJob")) {
            run.due(job, asking, entry);
        } else {
            run.due(state, asking, entry);
        }
    }

    private static void worked() {
        new Run("promise 35: no jobs").due(0L, "worked").due(0, "tick", 60).due(0L, "worked");
        many(shared("promise 35: the most that thirty jobs can work"), 0, 50, 30).due(0L, "worked").due(0, "tick", 1)
            .due(30L, "worked").due(0, "tick", 48).due(1470L, "worked").due(30, "tick", 1).due(1500L, "worked")
            .due(0, "tick", 60).due(1500L, "worked");
        jobs(shared("promise 35: no tick of one that waits, is stopped, done or ended"), 0, 2, 1, 1, 0, 0, 0)
            .due(1, "stop", 2).due(1, "end", 3).due(0, "tick", 1).due(2L, "worked").due(2, "tick", 1)
            .due(4L, "worked").due(0, "tick", 1).due(5L, "worked").due(1, "tick", 60).due(6L, "worked")
            .due(0, "goOn", 2).due(1, "tick", 60).due(8L, "worked");
    }

    private static void doneShare() {
        new Run("promise 36: there are no jobs").refuses(MISSING, "doneShare").due(0, "open", false)
            .refuses(MISSING, "doneShare");
        for (int all = 1; all <= 30; all++) {
            for (int done : new int[] {0, 1, all / 2, all - 1, all}) {
                Run run = many(shared("promise 36: " + done + " of " + all), 0, 1, done).due(done, "tick", 1);
                many(run, 0, 2, all - done).due((float) done / (float) all, "doneShare");
            }
        }
        many(shared("promise 36: none done"), 0, 1, 30).due(0f, "doneShare").due(30, "signal", 0, 's')
            .due(0f, "doneShare").due(30, "signal", 0, 'k').due(0f, "doneShare");
        many(shared("promise 36: all done"), 0, 1, 30).due(30, "tick", 1).due(1f, "doneShare");
        jobs(shared("promise 36: one that was ended is not done, but one of all"), 0, 1, 0, 0, 0).due(0, "end", 1)
            .due(0f, "doneShare").due(2, "tick", 1).due(0.6666667f, "doneShare");
    }
}
