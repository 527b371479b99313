import java.util.ArrayList;
import java.util.List;

/**
 * Wrong calls in a full state: each answers the error that its promise lists first, and changes
 * nothing, also not what the text and the history hold.
 */
public final class ErrorTest {
    private static final int INVALID = -11;
    private static final int ILLEGAL = -12;
    private static final int FULL = -13;

    private static final List<Call> BUSY = busyRun();
    private static final List<List<Integer>> BEFORE = Snapshot.deepAfter(BUSY);

    private ErrorTest() {
    }

    public static void main(String[] args) {
        argumentsOutOfRange();
        numbersThatDoNotExist();
        statesAndRoom();
        emptyMap();
        questionsChangeNothing();
        Checks.close("ErrorTest");
    }

    /** Ten scouts, six lights, a full text with an error, a full history. */
    private static List<Call> busyRun() {
        List<Call> run = new ArrayList<>();
        run.add(Call.of("setWall", 5, 5, 1));
        run.add(Call.of("setHeight", 4, 4, 3));
        for (int i = 0; i < 10; i++) {
            run.add(Call.of("addScout", i % 2, i, i % 3, 1 + i % 8));
        }
        for (int i = 0; i < 6; i++) {
            run.add(Call.of("addLight", 2 * i, 9 - i, i % 5, 3 * i));
        }
        run.add(Call.of("pass", 2));
        run.add(Call.of("step", 0, 0, 1));
        run.add(Call.of("setFogTime", 20));
        run.add(Call.of("step", 3, 0, 1));
        run.add(Call.of("removeLight", 1));
        run.add(Call.of("addLight", 7, 7, 1, 9));
        run.add(Call.of("setOil", 0, 8));
        String text = "123;".repeat(9) + "000000000000000";
        for (int i = 0; i < 120; i++) {
            run.add(Call.of("append", i < text.length() ? text.charAt(i) : ' '));
        }
        return run;
    }

    private static void wrong(int error, String name, int... arguments) {
        Call call = Call.of(name, arguments);
        Checks.equal(call.toString(), error, call.on(Snapshot.made(BUSY)));
        Checks.equal("all answers after " + call, BEFORE, Snapshot.deepAfter(Snapshot.with(BUSY, call)));
    }

    /** Tries a call with each of its arguments below its least and above its greatest value. */
    private static void ranges(String name, int[] good, int[] least, int[] most) {
        for (int i = 0; i < good.length; i++) {
            int[] values = {least[i] - 1, most[i] + 1, Integer.MIN_VALUE, Integer.MAX_VALUE};
            for (int value : values) {
                int[] arguments = good.clone();
                arguments[i] = value;
                wrong(INVALID, name, arguments);
            }
        }
    }

    private static void argumentsOutOfRange() {
        ranges("setHeight", new int[] {0, 0, 0}, new int[] {0, 0, 0}, new int[] {11, 9, 9});
        ranges("setWall", new int[] {4, 1, 1}, new int[] {0, 0, 0}, new int[] {11, 9, 1});
        ranges("append", new int[] {65}, new int[] {1}, new int[] {255});
        ranges("addScout", new int[] {0, 9, 9, 1}, new int[] {0, 0, 0, 1}, new int[] {1, 11, 9, 8});
        ranges("step", new int[] {0, 1, 1}, new int[] {0, -1, -1}, new int[] {9, 1, 1});
        wrong(INVALID, "step", 0, 0, 0);
        ranges("removeScout", new int[] {0}, new int[] {0}, new int[] {9});
        ranges("addLight", new int[] {0, 0, 0, 0}, new int[] {0, 0, 0, 0}, new int[] {11, 9, 4, 50});
        ranges("setOil", new int[] {0, 0}, new int[] {0, 0}, new int[] {5, 50});
        ranges("removeLight", new int[] {0}, new int[] {0}, new int[] {5});
        ranges("setFogTime", new int[] {5}, new int[] {1}, new int[] {99});
        ranges("pass", new int[] {5}, new int[] {1}, new int[] {99});
        ranges("count", new int[] {0}, new int[] {0}, new int[] {11});
        ranges("cell", new int[] {0, 0, 0}, new int[] {0, 0, 0}, new int[] {11, 9, 3});
        ranges("scout", new int[] {0, 0}, new int[] {0, 0}, new int[] {9, 5});
        ranges("light", new int[] {0, 0}, new int[] {0, 0}, new int[] {5, 3});
        ranges("known", new int[] {0, 0, 0, 0}, new int[] {0, 0, 0, 0}, new int[] {1, 11, 9, 4});
        ranges("view", new int[] {0, 0, 0, 0}, new int[] {0, 0, 0, 0}, new int[] {11, 9, 11, 9});
        ranges("way", new int[] {0, 0, 0}, new int[] {0, 0, 0}, new int[] {9, 11, 9});
        ranges("lookout", new int[] {0, 0}, new int[] {0, 0}, new int[] {9, 11});
        ranges("alone", new int[] {0}, new int[] {0}, new int[] {9});
    }

    private static void numbersThatDoNotExist() {
        List<Call> run = List.of(Call.of("addScout", 0, 3, 3, 2), Call.of("addLight", 3, 3, 2, 2));
        List<List<Integer>> before = Snapshot.deepAfter(run);
        List<Call> calls = List.of(Call.of("step", 1, 1, 0), Call.of("removeScout", 1), Call.of("scout", 1, 0),
                Call.of("way", 1, 3, 3), Call.of("lookout", 1, 0), Call.of("alone", 1), Call.of("setOil", 1, 1),
                Call.of("removeLight", 1), Call.of("light", 1, 0));
        for (Call call : calls) {
            Checks.equal(call.toString(), INVALID, call.on(Snapshot.made(run)));
            Checks.equal("all answers after " + call, before, Snapshot.deepAfter(Snapshot.with(run, call)));
        }
    }

    private static void statesAndRoom() {
        wrong(ILLEGAL, "setWall", 4, 1, 1);
        wrong(ILLEGAL, "addScout", 0, 4, 1, 1);
        wrong(ILLEGAL, "addScout", 1, 5, 5, 1);
        wrong(FULL, "addScout", 1, 6, 6, 1);
        wrong(FULL, "addLight", 6, 6, 1, 1);
        wrong(FULL, "append", ';');
        wrong(INVALID, "append", 0);
        wrong(ILLEGAL, "step", 0, -1, 0);
        wrong(ILLEGAL, "step", 1, 1, 1);
        wrong(-1000 - 48, "load");
    }

    private static void emptyMap() {
        List<Call> none = List.of();
        List<List<Integer>> before = Snapshot.deepAfter(none);
        List<Call> calls = List.of(Call.of("step", 0, 1, 0), Call.of("removeScout", 0), Call.of("scout", 0, 0),
                Call.of("way", 0, 0, 0), Call.of("lookout", 0, 0), Call.of("alone", 0), Call.of("setOil", 0, 0),
                Call.of("removeLight", 0), Call.of("light", 0, 0), Call.of("undo"));
        for (Call call : calls) {
            int error = call.name().equals("undo") ? ILLEGAL : INVALID;
            Checks.equal(call + " on an empty map", error, call.on(new FogMap()));
            Checks.equal("all answers after " + call, before, Snapshot.deepAfter(List.of(call)));
        }
    }

    private static void questionsChangeNothing() {
        for (int scout = 0; scout < 10; scout++) {
            List<Call> calls = List.of(Call.of("way", scout, 11, 9), Call.of("lookout", scout, scout),
                    Call.of("alone", scout), Call.of("scout", scout, 4), Call.of("view", scout, 0, 11, 9),
                    Call.of("known", 1, scout, 5, 1), Call.of("cell", scout, 5, 2), Call.of("count", scout));
            List<Call> run = new ArrayList<>(BUSY);
            run.addAll(calls);
            Checks.equal("all answers after " + calls, BEFORE, Snapshot.deepAfter(run));
        }
    }
}
