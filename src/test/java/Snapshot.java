import java.util.ArrayList;
import java.util.List;

/**
 * All that can be asked after a run of calls. An object answers 512 calls only, so the run is made
 * again on a new object whenever they are used up.
 */
final class Snapshot {
    static final int MOST_CALLS = 512;
    /** The place of the number of states among the answers. */
    static final int HISTORY = 10;
    private static final List<Call> QUESTIONS = questions();

    private Snapshot() {
    }

    /** The answers of all looking calls after the run. */
    static List<Integer> after(List<Call> run) {
        List<Integer> answers = new ArrayList<>();
        FogMap map = null;
        int used = MOST_CALLS;
        for (Call question : QUESTIONS) {
            if (used >= MOST_CALLS) {
                map = made(run);
                used = run.size();
            }
            answers.add(question.on(map));
            used++;
        }
        return answers;
    }

    /** The same answers of the reference, which has no bound on calls. */
    static List<Integer> of(Reference reference) {
        return QUESTIONS.stream().map(question -> question.on(reference)).toList();
    }

    /** Also what the text and the history hold: the answers after a load, and after each undo. */
    static List<List<Integer>> deepAfter(List<Call> run) {
        List<List<Integer>> all = new ArrayList<>();
        all.add(after(run));
        addAnswers(all, run, Call.of("load"));
        List<Call> longer = run;
        for (int i = 0; i < 6; i++) {
            longer = addAnswers(all, longer, Call.of("undo"));
        }
        return all;
    }

    private static List<Call> addAnswers(List<List<Integer>> all, List<Call> run, Call call) {
        all.add(List.of(call.on(made(run))));
        List<Call> longer = with(run, call);
        all.add(after(longer));
        return longer;
    }

    static FogMap made(List<Call> run) {
        FogMap map = new FogMap();
        for (Call call : run) {
            call.on(map);
        }
        return map;
    }

    static List<Call> with(List<Call> run, Call call) {
        List<Call> longer = new ArrayList<>(run);
        longer.add(call);
        return longer;
    }

    private static List<Call> questions() {
        List<Call> questions = new ArrayList<>();
        for (int what = 0; what <= 11; what++) {
            questions.add(Call.of("count", what));
        }
        for (int column = 0; column < 12; column++) {
            for (int row = 0; row < 10; row++) {
                addCellQuestions(questions, column, row);
            }
        }
        for (int number = 0; number < 10; number++) {
            for (int what = 0; what <= 5; what++) {
                questions.add(Call.of("scout", number, what));
            }
            for (int what = 0; what <= 3; what++) {
                questions.add(Call.of("light", number, what));
            }
            questions.add(Call.of("alone", number));
        }
        return questions;
    }

    private static void addCellQuestions(List<Call> questions, int column, int row) {
        for (int what = 0; what <= 3; what++) {
            questions.add(Call.of("cell", column, row, what));
        }
        for (int side = 0; side <= 1; side++) {
            for (int what = 0; what <= 4; what++) {
                questions.add(Call.of("known", side, column, row, what));
            }
        }
    }
}
