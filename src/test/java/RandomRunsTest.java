import java.util.Random;

/** Runs of 512 calls with arguments drawn from fixed seeds: each answer is due to be the one of PlainShell. */
public final class RandomRunsTest {
    private static final int RUNS = 250;
    private static final int CALLS = 512;
    private static final String[] CHANGES = {
        "open", "setPrivate", "drop", "takeUp", "start", "start", "start", "toFront", "toBack", "stop", "goOn",
        "goOn", "end", "signal", "tick"};
    private static final String[] QUESTIONS = {
        "isAttached", "kept", "commandAt", "common", "commonAt", "search", "state", "stateByJournal", "toDo",
        "sessionOf", "front", "count", "holder", "holderByJobs", "holds", "waiting", "waitingAt", "blockers",
        "entries", "entryJob", "entryState", "worked", "doneShare"};

    private final Random random;
    private final Object shell = new Shellhouse();
    private final Object plain = new PlainShell();
    private final Run run;
    /** How rarely jobs are started, and how rarely wrong numbers are told, differs from run to run. */
    private final int slowness;
    private final int wrongness;

    private RandomRunsTest(int seed) {
        random = new Random(seed);
        run = new Run("seed " + seed, shell);
        slowness = 1 + random.nextInt(12);
        wrongness = 3 + random.nextInt(60);
    }

    public static void main(String[] args) {
        for (int seed = 0; seed < RUNS; seed++) {
            new RandomRunsTest(seed).go();
        }
        Run.tell("RandomRunsTest");
    }

    private void go() {
        for (int i = 0; i < CALLS; i++) {
            String[] methods = random.nextInt(4) == 0 ? QUESTIONS : CHANGES;
            String method = methods[random.nextInt(methods.length)];
            if (method.equals("start") && random.nextInt(slowness) != 0) {
                method = "tick";
            }
            Object[] args = argumentsOf(method);
            run.due(Run.answerOf(plain, method, args), method, args);
            if (i % 32 == 31) {
                comparePictures();
            }
        }
    }

    private void comparePictures() {
        String[] due = Run.pictureOf(plain).split("\n");
        String[] got = Run.pictureOf(shell).split("\n");
        for (int i = 0; i < Math.max(due.length, got.length); i++) {
            String dueLine = i < due.length ? due[i] : "nothing";
            String gotLine = i < got.length ? got[i] : "nothing";
            if (!dueLine.equals(gotLine)) {
                throw new AssertionError("the program answers " + gotLine + ", due is " + dueLine);
            }
        }
    }

    private Object[] argumentsOf(String method) {
        switch (method) {
            case "open":
                return new Object[] {random.nextBoolean()};
            case "setPrivate":
                return new Object[] {number(4), random.nextBoolean()};
            case "commandAt":
                return new Object[] {number(4), number(9)};
            case "search":
                int least = number(20);
                return new Object[] {number(4), least, least + random.nextInt(60) - 2};
            case "start":
                return new Object[] {
                    number(4), number(20), 1 + number(random.nextInt(8) == 0 ? 50 : 6), someLocks(), random.nextBoolean()};
            case "count":
                return new Object[] {number(4), "rwsdkx".charAt(random.nextInt(6))};
            case "signal":
                return new Object[] {number(4), "sggggkx".charAt(random.nextInt(7))};
            case "tick":
                return new Object[] {random.nextInt(8) == 0 ? number(62) : 1};
            case "drop", "takeUp", "isAttached", "kept", "front", "toBack":
                return new Object[] {number(4)};
            case "holder", "holderByJobs":
                return new Object[] {number(6)};
            case "common", "waiting", "entries", "worked", "doneShare":
                return new Object[0];
            case "commonAt":
                return new Object[] {number(13)};
            case "entryJob", "entryState":
                return new Object[] {number(100)};
            default:
                return new Object[] {number(30)};
        }
    }

    /** A number from 0 on below a bound, or rarely one that may be wrong. */
    private int number(int bound) {
        if (random.nextInt(wrongness) == 0) {
            int[] odd = {-1, bound, bound + 1, Integer.MAX_VALUE, Integer.MIN_VALUE, 100, 64, 51, -64};
            return odd[random.nextInt(odd.length)];
        }
        return random.nextInt(bound);
    }

    private int someLocks() {
        int some = number(64) & (random.nextInt(wrongness) == 0 ? -1 : 63);
        return random.nextBoolean() ? some & 1 << random.nextInt(6) : some;
    }
}
