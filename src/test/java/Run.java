import java.lang.reflect.InvocationTargetException;
import java.lang.reflect.Method;
import java.util.ArrayList;
import java.util.HashMap;
import java.util.List;
import java.util.Map;
import java.util.NoSuchElementException;

/** A run of calls on one new object, each with the answer that is due. */
final class Run {
    record Call(String method, Object... args) { }

    /** One fault may make thousands of answers wrong. */
    private static final int MOST_TOLD = 50;
    private static final Map<String, Method> METHODS = new HashMap<>();
    private static int wrong = 0;
    private static int asked = 0;

    private final String title;
    private final Object shell;
    /** The calls up to now, but for those that were refused. */
    private final List<Call> made = new ArrayList<>();

    Run(String title) {
        this(title, new Shellhouse());
    }

    Run(String title, Object shell) {
        this.title = title;
        this.shell = shell;
    }

    /** Makes a call; what it answers is due to read like the answer given. */
    Run due(Object answer, String method, Object... args) {
        check(String.valueOf(answer), answerOf(shell, method, args), method, args);
        made.add(new Call(method, args));
        return this;
    }

    /** Makes a call whose answer is of no matter here, but which is due not to throw. */
    Run call(String method, Object... args) {
        String got = answerOf(shell, method, args);
        if (got.startsWith("throws")) {
            check("an answer", got, method, args);
        }
        made.add(new Call(method, args));
        return this;
    }

    /** Makes a call that is due to throw, and to change nothing, neither what can be asked now nor what comes of it. */
    Run refuses(Class<? extends RuntimeException> exception, String method, Object... args) {
        String before = pictureOf(shell);
        check("throws " + exception.getSimpleName(), answerOf(shell, method, args), method, args);
        check(before, pictureOf(shell), method + " (all answers behind it)", args);
        Object without = behind(new Shellhouse(), made);
        Object with = behind(new Shellhouse(), made);
        answerOf(with, method, args);
        check(futureOf(without), futureOf(with), method + " (what comes behind it)", args);
        return this;
    }

    /** The same shell, behind the calls. */
    static Object behind(Object shell, List<Call> calls) {
        calls.forEach(call -> answerOf(shell, call.method, call.args));
        return shell;
    }

    /** The answers of calls that show what can't be asked for: who is private, and whom a drop has stopped. */
    static String futureOf(Object shell) {
        StringBuilder text = new StringBuilder();
        for (String method : new String[] {"takeUp", "drop", "takeUp"}) {
            for (int session = 0; session < 4; session++) {
                add(text, shell, method, session);
            }
        }
        for (int session = 0; session < 4; session++) {
            add(text, shell, "setPrivate", session, true);
            add(text, shell, "signal", session, 'g');
        }
        add(text, shell, "tick", 1);
        add(text, shell, "start", 0, 98, 1, 0, true);
        add(text, shell, "open", false);
        add(text, shell, "tick", 60);
        return text.append(pictureOf(shell)).toString();
    }

    /** The states of the jobs from 0 on, as they are kept and by the journal. */
    Run states(String states) {
        for (int job = 0; job < states.length(); job++) {
            due(states.charAt(job), "state", job).due(states.charAt(job), "stateByJournal", job);
        }
        return this;
    }

    /** The whole journal, each entry as the job's number and the state. */
    Run journal(String entries) {
        String[] due = entries.split(" ");
        due(due.length, "entries");
        for (int entry = 0; entry < due.length; entry++) {
            int end = due[entry].length() - 1;
            due(due[entry].substring(0, end), "entryJob", entry).due(due[entry].charAt(end), "entryState", entry);
        }
        return this;
    }

    /** The whole history of a session, the last command first. */
    Run history(int session, int... commands) {
        due(commands.length, "kept", session);
        for (int back = 0; back < commands.length; back++) {
            due(commands[back], "commandAt", session, back);
        }
        return refuses(NoSuchElementException.class, "commandAt", session, commands.length);
    }

    /** The whole common history, the last command first. */
    Run commonHistory(int... commands) {
        due(commands.length, "common");
        for (int back = 0; back < commands.length; back++) {
            due(commands[back], "commonAt", back);
        }
        return refuses(NoSuchElementException.class, "commonAt", commands.length);
    }

    private void check(String due, String got, String method, Object[] args) {
        asked++;
        if (due.equals(got)) {
            return;
        }
        wrong++;
        if (wrong <= MOST_TOLD) {
            System.out.println(title + ": " + written(method, args) + " answered " + got + ", due is " + due);
        }
    }

    /** Tells the outcome of all runs, and ends the program with 1 if one was wrong. */
    static void tell(String name) {
        System.out.println(name + ": " + asked + " answers, " + wrong + " of them wrong");
        if (wrong != 0 || asked == 0) {
            System.exit(1);
        }
    }

    static String written(String method, Object... args) {
        StringBuilder text = new StringBuilder(method).append('(');
        for (int i = 0; i < args.length; i++) {
            text.append(i == 0 ? "" : ", ").append(args[i]);
        }
        return text.append(')').toString();
    }

    static String answerOf(Object shell, String method, Object... args) {
        try {
            return String.valueOf(methodOf(shell, method).invoke(shell, args));
        } catch (InvocationTargetException e) {
            return "throws " + thrown(shell, e.getCause());
        } catch (IllegalAccessException e) {
            throw new AssertionError(e);
        }
    }

    /** The exception's name; one that the class did not throw itself, but let the library throw, is another one. */
    private static String thrown(Object shell, Throwable exception) {
        String name = exception.getClass().getSimpleName();
        boolean foreign = !exception.getStackTrace()[0].getClassName().startsWith("Shellhouse");
        return shell instanceof Shellhouse && foreign ? name + " of the library" : name;
    }

    private static Method methodOf(Object shell, String name) {
        return METHODS.computeIfAbsent(shell.getClass().getName() + "." + name, key -> {
            for (Method method : shell.getClass().getDeclaredMethods()) {
                if (method.getName().equals(name)) {
                    method.setAccessible(true);
                    return method;
                }
            }
            throw new AssertionError("no method " + key);
        });
    }

    /** The answers of all calls that only ask. */
    static String pictureOf(Object shell) {
        StringBuilder text = new StringBuilder();
        for (int session = 0; session < 5; session++) {
            add(text, shell, "isAttached", session);
            add(text, shell, "front", session);
            add(text, shell, "kept", session);
            for (int back = 0; back < 9; back++) {
                add(text, shell, "commandAt", session, back);
            }
            add(text, shell, "search", session, 0, 99);
            for (char state : "rwsdk".toCharArray()) {
                add(text, shell, "count", session, state);
            }
        }
        add(text, shell, "common");
        for (int back = 0; back < 13; back++) {
            add(text, shell, "commonAt", back);
        }
        for (int job = 0; job < 31 && !answerOf(shell, "state", job).startsWith("throws"); job++) {
            for (String asking : new String[] {
                    "state", "stateByJournal", "toDo", "sessionOf", "holds", "blockers", "waitingAt"}) {
                add(text, shell, asking, job);
            }
        }
        for (int lock = 0; lock < 6; lock++) {
            add(text, shell, "holder", lock);
            add(text, shell, "holderByJobs", lock);
        }
        for (String asking : new String[] {"waiting", "entries", "worked", "doneShare"}) {
            add(text, shell, asking);
        }
        int entries = Integer.parseInt(answerOf(shell, "entries"));
        for (int entry = Math.max(0, entries - 70); entry < entries; entry++) {
            add(text, shell, "entryJob", entry);
            add(text, shell, "entryState", entry);
        }
        return text.toString();
    }

    private static void add(StringBuilder text, Object shell, String method, Object... args) {
        text.append(written(method, args)).append('=').append(answerOf(shell, method, args)).append('\n');
    }
}
