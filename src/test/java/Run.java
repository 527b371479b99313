import java.util.ArrayList;
import java.util.List;

/** A new object and the calls that were made on it, so that the run can be made again. */
final class Run {
    private static final List<Integer> ERRORS = List.of(-11, -12, -13);

    private final FogMap map = new FogMap();
    private final List<Call> calls = new ArrayList<>();
    private List<List<Integer>> answers = null;

    /** A call that prepares a case, and must not be refused. */
    Run does(String name, int... arguments) {
        int answer = make(Call.of(name, arguments));
        Checks.equal(latest() + " is refused", false, ERRORS.contains(answer));
        return this;
    }

    Run due(int want, String name, int... arguments) {
        int answer = make(Call.of(name, arguments));
        Checks.equal(latest(), want, answer);
        return this;
    }

    Run writes(String text) {
        for (int i = 0; i < text.length(); i++) {
            does("append", text.charAt(i));
        }
        return this;
    }

    /** The call answers the error and changes nothing, neither what can be asked nor text and history. */
    Run refused(int error, String name, int... arguments) {
        Call call = Call.of(name, arguments);
        Checks.equal(call + " after " + calls.size() + " calls", error, call.on(Snapshot.made(calls)));
        Checks.equal("all answers after the refused " + call, allAnswers(), Snapshot.deepAfter(Snapshot.with(calls, call)));
        return this;
    }

    /** All that can be asked, also behind a load and behind undos. */
    List<List<Integer>> allAnswers() {
        if (answers == null) {
            answers = Snapshot.deepAfter(calls);
        }
        return answers;
    }

    /** An argument's least and greatest value are taken; the next ones outside and the utmost ints are refused. */
    Run bounds(String name, int[] good, int place, int least, int most) {
        taken(name, with(good, place, least));
        taken(name, with(good, place, most));
        for (int value : new int[] {least - 1, most + 1, Integer.MIN_VALUE, Integer.MAX_VALUE}) {
            refused(FogMap.INVALID_ARGUMENT, name, with(good, place, value));
        }
        return this;
    }

    List<Integer> answersButHistory() {
        List<Integer> all = new ArrayList<>(Snapshot.after(calls));
        all.remove(Snapshot.HISTORY);
        return all;
    }

    private void taken(String name, int... arguments) {
        Call call = Call.of(name, arguments);
        Checks.equal(call + " is refused", false, ERRORS.contains(call.on(Snapshot.made(calls))));
    }

    private static int[] with(int[] arguments, int place, int value) {
        int[] others = arguments.clone();
        others[place] = value;
        return others;
    }

    private String latest() {
        return calls.get(calls.size() - 1) + " as call " + calls.size();
    }

    private int make(Call call) {
        calls.add(call);
        answers = null;
        Checks.equal("calls within the bound of the document", true, calls.size() <= Snapshot.MOST_CALLS);
        return call.on(map);
    }
}
