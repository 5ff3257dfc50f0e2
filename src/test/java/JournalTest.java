/** Promises 32 to 36: the journal. */
public final class JournalTest extends Cases {
    public static void main(String[] args) {
        entries();
        entriesOfEachChange();
        entry();
        longestJournal();
        fullJournal();
        worked();
        doneShare();
        Run.tell("JournalTest");
    }

    private static void entries() {
        shared("promise 32").due(0, "entries").call("start", 0, 1, 2, 1, true).due(2, "entries")
            .call("start", 0, 1, 2, 1, true).due(3, "entries").call("toFront", 0).call("toBack", 0).due(3, "entries")
            .call("stop", 1).due(4, "entries").call("goOn", 1).due(5, "entries")
            .due(0, "tick", 1).due(5, "entries").due(1, "tick", 1).due(7, "entries")
            .call("end", 1).due(8, "entries").due(0, "signal", 0, 'k').due(8, "entries");
    }

    private static void entriesOfEachChange() {
        Run run = shared("promise 33 and 34, each change").call("start", 0, 1, 2, 1, true)
            .call("start", 0, 1, 2, 1, false).call("drop", 0).call("takeUp", 0).call("tick", 2).call("stop", 1)
            .call("end", 1).due(9, "entries");
        int[] jobs = {0, 0, 1, 0, 0, 0, 1, 1, 1};
        String states = "wrwsrdrsk";
        for (int i = 0; i < jobs.length; i++) {
            run.due(jobs[i], "entryJob", i).due(states.charAt(i), "entryState", i);
        }
    }

    private static void entry() {
        for (String asking : new String[] {"entryJob", "entryState"}) {
            shared("promise 33 and 34").refuses(MISSING, asking, 0).call("start", 0, 1, 2, 1, true)
                .call(asking, 0).call(asking, 1).refuses(MISSING, asking, 2).refuses(MISSING, asking, -1)
                .refuses(MISSING, asking, Integer.MAX_VALUE).refuses(MISSING, asking, Integer.MIN_VALUE);
        }
    }

    /** No run of 512 calls has more entries: 30 jobs that hear a signal with each call that is left. */
    private static void longestJournal() {
        Run run = shared("promise 32, longest");
        for (int i = 0; i < 30; i++) {
            run.due(i, "start", 0, 0, 1, 0, false);
        }
        for (int i = 0; i < 480; i++) {
            run.due(30, "signal", 0, i % 2 == 0 ? 's' : 'g');
        }
        run.due(60 + 480 * 30, "entries");
        for (int i = 0; i < 480; i++) {
            int last = 60 + i * 30 + 29;
            run.due(29, "entryJob", last).due(i % 2 == 0 ? 's' : 'r', "entryState", last);
        }
        run.due('w', "entryState", 0).due('r', "entryState", 59).due('r', "stateByJournal", 29)
            .due('r', "stateByJournal", 0).due(30, "tick", 1).due('d', "stateByJournal", 29)
            .due(90 + 480 * 30, "entries");
    }

    /** Behind its 512th call an object may answer what it likes, but the machine never throws in it. */
    private static void fullJournal() {
        Run run = shared("no machine exception in a full journal");
        for (int i = 0; i < 29; i++) {
            run.due(i, "start", 0, 0, 1, 0, false);
        }
        for (int i = 0; i < 700; i++) {
            run.due(29, "signal", 0, i % 2 == 0 ? 's' : 'g');
        }
        run.due(29, "start", 0, 0, 1, 0, false).call("stateByJournal", 29).call("entries").call("entryJob", 16000)
            .due(30, "tick", 1);
    }

    private static void worked() {
        shared("promise 35").due(0, "worked").due(0, "tick", 5).due(0, "worked").call("start", 0, 1, 5, 1, true)
            .call("start", 0, 1, 2, 1, true).call("start", 0, 1, 50, 0, true).due(0, "worked")
            .due(0, "tick", 1).due(2, "worked").call("stop", 2).due(0, "tick", 3).due(5, "worked")
            .call("end", 1).due(5, "worked").due(1, "tick", 60).due(6, "worked");
    }

    private static void doneShare() {
        shared("promise 36").refuses(MISSING, "doneShare").call("start", 0, 1, 1, 0, false).due(0.0f, "doneShare")
            .due(1, "tick", 1).due(1.0f, "doneShare").call("start", 0, 1, 1, 0, false).due(0.5f, "doneShare")
            .call("start", 0, 1, 1, 0, false).due(1f / 3f, "doneShare").call("end", 1).due(1f / 3f, "doneShare")
            .due(1, "tick", 1).due(2f / 3f, "doneShare").call("start", 0, 1, 1, 0, false)
            .call("start", 0, 1, 1, 0, false).call("start", 0, 1, 1, 0, false).call("start", 0, 1, 1, 0, false)
            .due(2f / 7f, "doneShare").due(4, "tick", 1).due(6f / 7f, "doneShare");
    }
}
