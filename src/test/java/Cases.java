import java.util.NoSuchElementException;

/** What the tests of promises share: short names of the exceptions, and how runs begin. */
abstract class Cases {
    static final Class<IndexOutOfBoundsException> OUTSIDE = IndexOutOfBoundsException.class;
    static final Class<IllegalStateException> STATE = IllegalStateException.class;
    static final Class<IllegalArgumentException> ARGUMENT = IllegalArgumentException.class;
    static final Class<UnsupportedOperationException> UNSUPPORTED = UnsupportedOperationException.class;
    static final Class<NoSuchElementException> MISSING = NoSuchElementException.class;
    static final int LEAST = Integer.MIN_VALUE;
    static final int MOST = Integer.MAX_VALUE;

    /** A shell with one session, the number 0, which is shared. */
    static Run shared(String title) {
        return new Run(title).due(0, "open", false);
    }

    /** A shell with so many sessions, all of them shared. */
    static Run sessions(String title, int number) {
        Run run = new Run(title);
        for (int session = 0; session < number; session++) {
            run.due(session, "open", false);
        }
        return run;
    }

    /** Starts jobs behind, each with a command told; they need one tick and no locks. */
    static Run started(Run run, int session, int... commands) {
        for (int command : commands) {
            run.call("start", session, command, 1, 0, false);
        }
        return run;
    }

    /** Starts jobs behind, each with the work and the locks told. */
    static Run jobs(Run run, int session, int work, int... locks) {
        for (int needed : locks) {
            run.call("start", session, 0, work, needed, false);
        }
        return run;
    }

    /** Starts so many jobs behind that need no locks. */
    static Run many(Run run, int session, int work, int number) {
        for (int i = 0; i < number; i++) {
            run.call("start", session, i, work, 0, false);
        }
        return run;
    }

    /** The call is refused for each number of a session or a job that is not one of 0 to n - 1. */
    static Run outside(Run run, int n, String method, Object... rest) {
        for (int number : new int[] {-1, n, n + 1, LEAST, MOST}) {
            Object[] args = new Object[rest.length + 1];
            args[0] = number;
            System.arraycopy(rest, 0, args, 1, rest.length);
            run.refuses(OUTSIDE, method, args);
        }
        return run;
    }

    /** The call is refused for each sign that there is but for those told; the session 0 has one job. */
    static void noSuchLetter(String title, String method, String signs) {
        Run run = shared(title).call("start", 0, 0, 9, 0, false);
        for (char sign : new char[] {'x', 'R', 'S', 'G', 'D', 'K', 'W', 0, ' ', '0', 'q', 't', 'j', 'l', '\uffff'}) {
            run.refuses(ARGUMENT, method, 0, sign);
        }
        for (char sign = 1; sign < Character.MAX_VALUE; sign++) {
            if (signs.indexOf(sign) < 0) {
                run.due("throws IllegalArgumentException", method, 0, sign);
            } else {
                run.call(method, 0, sign);
            }
        }
    }
}
