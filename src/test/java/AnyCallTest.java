import java.util.ArrayList;
import java.util.List;
import java.util.Random;

/** What holds for all calls: questions change nothing, no call throws, and runs answer the same again. */
public final class AnyCallTest {
    private static final int LONG_RUNS = 10;
    private static final int LONG_RUN = 5000;
    private static final int[] UTMOST = {Integer.MIN_VALUE, Integer.MIN_VALUE + 1, -65536, -100, -13, -2, -1, 10, 12, 50,
        100, 120, 128, 255, 256, 65536, Integer.MAX_VALUE - 1, Integer.MAX_VALUE};
    private static final Call[] CALLS = {new Call("setHeight", 11, 9, 9), new Call("setWall", 11, 9, 1),
        new Call("append", 255), new Call("clearText"), new Call("load"), new Call("addScout", 1, 11, 9, 8),
        new Call("step", 9, 1, 1), new Call("removeScout", 9), new Call("addLight", 11, 9, 4, 50),
        new Call("setOil", 5, 50), new Call("removeLight", 5), new Call("setFogTime", 99), new Call("pass", 99),
        new Call("undo"), new Call("count", 11), new Call("cell", 11, 9, 3), new Call("scout", 9, 5),
        new Call("light", 5, 3), new Call("known", 1, 11, 9, 4), new Call("view", 11, 9, 11, 9), new Call("way", 9, 11, 9),
        new Call("lookout", 9, 11), new Call("alone", 9)};

    private AnyCallTest() {
    }

    public static void main(String[] args) {
        questionsChangeNothing();
        wrongCallsInEmptyAndFullStates();
        for (int seed = 0; seed < LONG_RUNS; seed++) {
            longRun(seed);
        }
        Checks.close("AnyCallTest");
    }

    private static void questionsChangeNothing() {
        Run run = Boundaries.full();
        List<List<Integer>> before = run.allAnswers();
        for (int scout = 0; scout < 10; scout++) {
            run.does("scout", scout, 4).does("scout", scout, 5).does("alone", scout).does("lookout", scout, scout)
                    .does("way", scout, 11, 9).does("view", scout, 0, 11, 9).does("known", 1, scout, 5, 1)
                    .does("cell", scout, 5, 2).does("light", scout / 2, 3).does("count", scout);
        }
        Checks.equal("all answers after many questions", before, run.allAnswers());
    }

    /** Each argument of each call, with the others at their greatest values. */
    private static void wrongCallsInEmptyAndFullStates() {
        Run empty = new Run();
        Run full = Boundaries.full();
        for (Call call : CALLS) {
            for (int place = 0; place < call.arguments().length; place++) {
                for (int value : UTMOST) {
                    if (isWrong(call, place, value)) {
                        int[] arguments = call.arguments().clone();
                        arguments[place] = value;
                        empty.refused(FogMap.INVALID_ARGUMENT, call.name(), arguments);
                        full.refused(FogMap.INVALID_ARGUMENT, call.name(), arguments);
                    }
                }
            }
        }
    }

    private static boolean isWrong(Call call, int place, int value) {
        boolean isStep = call.name().equals("step") && place > 0;
        return value > call.arguments()[place] || value < (isStep ? -1 : 0);
    }

    /** Far beyond the calls whose answers are promised; that nothing throws is all that is asked. */
    private static void longRun(int seed) {
        Random random = new Random(seed);
        FogMap map = new FogMap();
        FogMap again = new FogMap();
        List<Integer> answers = new ArrayList<>();
        List<Integer> answersAgain = new ArrayList<>();
        for (int i = 0; i < LONG_RUN; i++) {
            Call call = randomCall(random);
            answers.add(call.on(map));
            answersAgain.add(call.on(again));
        }
        Checks.equal("the answers of the same run, seed " + seed, answers, answersAgain);
    }

    private static Call randomCall(Random random) {
        Call call = CALLS[random.nextInt(CALLS.length)];
        int[] arguments = call.arguments().clone();
        for (int i = 0; i < arguments.length; i++) {
            arguments[i] = random.nextInt(20) == 0 ? UTMOST[random.nextInt(UTMOST.length)]
                    : random.nextInt(arguments[i] + 1) - (call.name().equals("step") && i > 0 ? random.nextInt(2) : 0);
        }
        return new Call(call.name(), arguments);
    }
}
