import java.io.IOException;
import java.nio.file.Files;
import java.nio.file.Path;
import java.util.ArrayList;
import java.util.Arrays;
import java.util.List;
import java.util.Set;
import java.util.TreeSet;
import java.util.regex.Matcher;
import java.util.regex.Pattern;

/**
 * Each call with all combinations of numbers just inside and outside its bounds, on shells from empty to full: the
 * answer, and all that comes behind it, is due to be the one of PlainShell; and each exception that the document
 * names is due to be thrown by some of these calls.
 */
public final class BoundsGridTest {
    private static final Pattern PROMISE = Pattern.compile("## Promise \\d+: (\\w+)");
    private static final Pattern THROWS = Pattern.compile("Throws `(\\w+)` ");
    private static final Set<String> CHANGES = Set.of(
        "open", "setPrivate", "drop", "takeUp", "start", "toFront", "toBack", "stop", "goOn", "end", "signal", "tick");

    private static final Object[] FLAGS = {false, true};
    private static final Object[] SESSIONS = {Integer.MIN_VALUE, -1, 0, 1, 2, 3, 4, Integer.MAX_VALUE};
    private static final Object[] JOBS = numbers(-1, 31);
    private static final Object[] BACKS = numbers(-1, 13);
    private static final Object[] LOCKS = numbers(-1, 7);
    private static final Object[] ENTRIES = numbers(-1, 140);
    private static final Object[] TICKS = {Integer.MIN_VALUE, -1, 0, 1, 2, 8, 59, 60, 61, Integer.MAX_VALUE};
    private static final Object[] RANGES = {Integer.MIN_VALUE, -1, 0, 1, 5, 29, 98, 99, 100, Integer.MAX_VALUE};
    private static final Object[] SIGNS = {'r', 'w', 's', 'd', 'k', 'g', 'x', 'R', 'S', 'G', 'K', '\0', '\uffff'};

    private static final Set<String> seen = new TreeSet<>();

    private final String title;
    private final List<Run.Call> made = new ArrayList<>();
    /** What comes of the shell if no call is made, and so also what is due to come behind one that is refused. */
    private String untouched;

    private BoundsGridTest(String title) {
        this.title = title;
    }

    /** Takes the path of the document. */
    public static void main(String[] args) throws IOException {
        for (BoundsGridTest state : states()) {
            state.askAll();
        }
        Set<String> due = namedBy(Files.readString(Path.of(args[0])));
        due.removeAll(seen);
        if (!due.isEmpty()) {
            System.out.println("BoundsGridTest: never seen are " + due);
            System.exit(1);
        }
        Run.tell("BoundsGridTest");
    }

    /** Each call with "answers", and with each exception that the document names for it. */
    private static Set<String> namedBy(String document) {
        Set<String> named = new TreeSet<>();
        String method = "";
        for (String line : document.lines().toList()) {
            Matcher promise = PROMISE.matcher(line);
            Matcher thrown = THROWS.matcher(line);
            if (promise.find() && !promise.group(1).equals("A")) {
                method = promise.group(1);
                named.add(method + " answers");
            } else if (thrown.find()) {
                named.add(method + " throws " + thrown.group(1));
            }
        }
        if (named.size() < 35) {
            throw new AssertionError("the document has not been read");
        }
        return named;
    }

    private static Object[] numbers(int from, int to) {
        Object[] all = new Object[to - from + 3];
        for (int i = from; i <= to; i++) {
            all[i - from] = i;
        }
        all[all.length - 2] = Integer.MIN_VALUE;
        all[all.length - 1] = Integer.MAX_VALUE;
        return all;
    }

    private static List<BoundsGridTest> states() {
        List<BoundsGridTest> all = new ArrayList<>();
        all.add(new BoundsGridTest("a new object"));
        all.add(new BoundsGridTest("one session").then("open", false));
        all.add(fourSessions("four sessions"));
        all.add(fourSessions("four sessions, two of them dropped").then("drop", 0).then("drop", 3));
        all.add(eachState("a job in each state"));
        all.add(eachState("a job in each state, dropped").then("drop", 0));
        all.add(eachState("a job in each state, dropped and gone on").then("drop", 0).then("goOn", 2).then("stop", 2));
        all.add(fourSessions("29 jobs").jobs(29, 0));
        all.add(fourSessions("30 jobs").jobs(30, 0));
        all.add(fourSessions("30 jobs that want all locks").jobs(30, 63));
        all.add(fourSessions("30 jobs, stopped and dropped").jobs(30, 63).then("signal", 1, 's').then("drop", 2));
        all.add(fourSessions("30 jobs that are done").jobs(30, 0).then("tick", 60));
        return all;
    }

    /** Two of the sessions are private. */
    private static BoundsGridTest fourSessions(String title) {
        return new BoundsGridTest(title).then("open", false).then("open", true).then("open", false).then("open", true);
    }

    private static BoundsGridTest eachState(String title) {
        return new BoundsGridTest(title).then("open", false).then("open", true)
            .then("start", 0, 5, 1, 0, false).then("start", 0, 6, 9, 0, false).then("start", 0, 7, 9, 3, true)
            .then("start", 1, 8, 9, 2, true).then("start", 1, 9, 9, 4, false).then("start", 0, 10, 9, 4, false)
            .then("stop", 4).then("stop", 5).then("end", 1).then("tick", 1);
    }

    /** Jobs by turns of all four sessions and of different work, some of them in front. */
    private BoundsGridTest jobs(int number, int locks) {
        for (int job = 0; job < number; job++) {
            then("start", job % 4, job, 1 + job % 7, locks, job % 5 == 0);
        }
        return this;
    }

    private BoundsGridTest then(String method, Object... args) {
        made.add(new Run.Call(method, args));
        return this;
    }

    private void askAll() {
        untouched = Run.futureOf(Run.behind(new PlainShell(), made));
        ask("open", FLAGS);
        ask("setPrivate", SESSIONS, FLAGS);
        for (String method : new String[] {"drop", "takeUp", "isAttached", "kept", "front", "toBack"}) {
            ask(method, SESSIONS);
        }
        for (String method : new String[] {"state", "stateByJournal", "toDo", "sessionOf", "toFront", "holds",
                "waitingAt", "blockers", "stop", "goOn", "end"}) {
            ask(method, JOBS);
        }
        for (String method : new String[] {"common", "waiting", "entries", "worked", "doneShare"}) {
            ask(method);
        }
        ask("commandAt", SESSIONS, BACKS);
        ask("commonAt", BACKS);
        ask("search", SESSIONS, RANGES, RANGES);
        ask("count", SESSIONS, SIGNS);
        ask("holder", LOCKS);
        ask("holderByJobs", LOCKS);
        ask("signal", SESSIONS, SIGNS);
        ask("tick", TICKS);
        ask("entryJob", ENTRIES);
        ask("entryState", ENTRIES);
        ask("start", new Object[] {-1, 0, 1, 4}, new Object[] {-1, 0, 99, 100}, new Object[] {0, 1, 50, 51},
            new Object[] {-1, 0, 63, 64}, FLAGS);
    }

    /** Makes the call with each combination of the values; one that may change something on a new object. */
    private void ask(String method, Object[]... values) {
        Object shell = Run.behind(new Shellhouse(), made);
        Object plain = Run.behind(new PlainShell(), made);
        for (Object[] args : combinations(values)) {
            String due = Run.answerOf(plain, method, args);
            boolean refused = due.startsWith("throws");
            new Run(title, shell).due(due, method, args);
            seen.add(method + " " + (refused ? due : "answers"));
            if (CHANGES.contains(method)) {
                compare(refused ? untouched : Run.futureOf(plain), Run.futureOf(shell), method, args);
                shell = Run.behind(new Shellhouse(), made);
                plain = refused ? plain : Run.behind(new PlainShell(), made);
            }
        }
    }

    private static List<Object[]> combinations(Object[]... values) {
        List<Object[]> all = new ArrayList<>();
        all.add(new Object[0]);
        for (Object[] some : values) {
            List<Object[]> longer = new ArrayList<>();
            for (Object[] args : all) {
                for (Object value : some) {
                    Object[] more = Arrays.copyOf(args, args.length + 1);
                    more[args.length] = value;
                    longer.add(more);
                }
            }
            all = longer;
        }
        return all;
    }

    private void compare(String due, String got, String method, Object[] args) {
        if (!due.equals(got)) {
            throw new AssertionError(title + ": what comes behind " + Run.written(method, args) + " is wrong");
        }
    }
}
