import java.util.List;

/** The boundary cases of the promises 13 to 15: the fog time, turns that pass, and undo. */
public final class TurnBoundaryTest {
    private static final int INVALID = FogMap.INVALID_ARGUMENT;
    private static final int ILLEGAL = FogMap.ILLEGAL_STATE;
    private static final int FULL = FogMap.CAPACITY_EXCEEDED;
    private static final int NONE = FogMap.NONE;

    private TurnBoundaryTest() {
    }

    public static void main(String[] args) {
        Boundaries.test(TurnBoundaryTest.class, 13, 15);
    }

    // ---- Promise 13: setFogTime

    static void promise13TurnsFrom1To99() {
        Boundaries.full().bounds("setFogTime", new int[] {7}, 0, 1, 99);
        new Run().bounds("setFogTime", new int[] {7}, 0, 1, 99);
    }

    static void promise13ThePreviousTime() {
        new Run().due(10, "setFogTime", 1).due(1, "setFogTime", 99).due(99, "setFogTime", 99).due(99, "count", 4);
    }

    static void promise13TheSameTimeIsAnAction() {
        new Run().due(10, "setFogTime", 10).due(1, "count", 10);
    }

    /** Side 0 remembers the column 4 for 7 turns, the column 5 for 10, and sees the columns 6 to 8. */
    private static Run remembered() {
        return Boundaries.scoutAt(0, 5, 5, 1).does("step", 0, 1, 0).does("pass", 3).does("step", 0, 1, 0)
                .due(7, "known", 0, 4, 5, 0).due(10, "known", 0, 5, 5, 0).due(10, "known", 0, 6, 5, 0);
    }

    private static void memories(Run run, int column4, int column5, int column6) {
        run.due(column4, "known", 0, 4, 5, 0).due(column5, "known", 0, 5, 5, 0).due(column6, "known", 0, 6, 5, 0)
                .due(0, "known", 0, 3, 5, 0).due(0, "known", 1, 4, 5, 0);
    }

    static void promise13MemoriesAreSmallerEqualAndGreater() {
        memories(remembered().does("setFogTime", 8), 7, 8, 8);
        memories(remembered().does("setFogTime", 7), 7, 7, 7);
        memories(remembered().does("setFogTime", 6), 6, 6, 6);
    }

    static void promise13TheLeastTime() {
        memories(remembered().does("setFogTime", 1), 1, 1, 1);
        memories(remembered().does("setFogTime", 1).does("pass", 1), 0, 0, 1);
    }

    static void promise13TheGreatestTime() {
        memories(remembered().does("setFogTime", 99), 7, 10, 99);
        memories(remembered().does("setFogTime", 99).does("step", 0, 1, 0).does("pass", 98), 0, 0, 1);
        memories(remembered().does("setFogTime", 99).does("step", 0, 1, 0).does("pass", 99), 0, 0, 0);
    }

    static void promise13SmallerAndGreaterAgain() {
        memories(remembered().does("setFogTime", 3).does("setFogTime", 50), 3, 3, 50);
    }

    static void promise13OfBothSides() {
        Boundaries.scoutAt(1, 5, 5, 1).does("step", 0, 1, 0).does("setFogTime", 4).due(4, "known", 1, 4, 5, 0)
                .due(0, "known", 0, 4, 5, 0);
    }

    static void promise13UndoBringsGreaterMemoriesBack() {
        memories(remembered().does("setFogTime", 1).due(4, "undo"), 7, 10, 10);
    }

    static void promise13WithoutScouts() {
        new Run().does("setFogTime", 1).due(0, "count", 8).due(0, "count", 9);
    }

    // ---- Promise 14: pass

    static void promise14TurnsFrom1To99() {
        Boundaries.full().bounds("pass", new int[] {7}, 0, 1, 99);
        new Run().bounds("pass", new int[] {7}, 0, 1, 99);
    }

    static void promise14WithoutScoutsAndLights() {
        new Run().due(0, "pass", 1).due(1, "count", 5).due(0, "pass", 99).due(100, "count", 5).due(0, "count", 8);
    }

    private static Run lightOf(int oil) {
        return new Run().does("addLight", 5, 5, 1, oil);
    }

    static void promise14OilOf0() {
        lightOf(0).due(0, "pass", 1).due(0, "light", 0, 3).due(0, "pass", 99).due(0, "light", 0, 3);
    }

    static void promise14OilOf1() {
        lightOf(1).due(1, "pass", 1).due(0, "light", 0, 3).due(0, "count", 2).due(0, "count", 3)
                .due(1, "count", 1).due(0, "pass", 1);
    }

    static void promise14OilOf2() {
        lightOf(2).due(0, "pass", 1).due(1, "light", 0, 3).due(1, "count", 2).due(9, "count", 3)
                .due(1, "pass", 1).due(0, "light", 0, 3);
        lightOf(2).due(1, "pass", 2);
    }

    static void promise14OilOf50() {
        lightOf(50).due(0, "pass", 49).due(1, "light", 0, 3).due(1, "pass", 1);
        lightOf(50).due(1, "pass", 50);
        lightOf(50).due(1, "pass", 99).due(0, "pass", 99);
    }

    static void promise14LightsThatGoOutInSeveralTurns() {
        Run run = new Run();
        for (int oil = 0; oil < 6; oil++) {
            run.does("addLight", 0, 0, 0, oil);
        }
        run.due(2, "pass", 2).due(3, "count", 2).due(3, "pass", 3).due(0, "count", 2).due(0, "pass", 1);
    }

    static void promise14AllOf6LightsInOneTurn() {
        Run run = new Run();
        for (int light = 0; light < 6; light++) {
            run.does("addLight", light, 0, 0, 1);
        }
        run.due(6, "pass", 1).due(6, "count", 1).due(0, "count", 3);
    }

    static void promise14ALightThatIsFilledAgainGoesOutAgain() {
        lightOf(1).due(1, "pass", 1).does("setOil", 0, 1).due(1, "pass", 1);
    }

    static void promise14MemoryOf1And0() {
        Run run = Boundaries.scoutAt(0, 5, 5, 1).does("setHeight", 4, 5, 1).does("step", 0, 1, 0);
        run.does("pass", 9).due(1, "known", 0, 4, 5, 0).due(1, "known", 0, 4, 5, 1).due(12, "count", 8)
                .does("pass", 1).due(0, "known", 0, 4, 5, 0).due(NONE, "known", 0, 4, 5, 1).due(9, "count", 8)
                .does("pass", 1).due(0, "known", 0, 4, 5, 0);
    }

    static void promise14SeenCellsStayAtTheFogTime() {
        Boundaries.scoutAt(0, 5, 5, 1).does("pass", 99).due(10, "known", 0, 4, 5, 0).due(9, "count", 8);
        Boundaries.scoutAt(0, 5, 5, 1).does("setFogTime", 1).does("pass", 99).due(1, "known", 0, 4, 5, 0);
    }

    static void promise14OilBurnsBeforeTheSidesLook() {
        Boundaries.scoutAt(0, 0, 0, 1).does("addLight", 2, 0, 0, 1).due(10, "known", 0, 2, 0, 0)
                .does("pass", 1).due(0, "known", 0, 2, 0, 4).due(9, "known", 0, 2, 0, 0);
        Boundaries.scoutAt(0, 0, 0, 1).does("addLight", 2, 0, 0, 2)
                .does("pass", 1).due(1, "known", 0, 2, 0, 4).due(10, "known", 0, 2, 0, 0);
    }

    static void promise14ALightGoesOutAndTheFogTimeIs1() {
        Boundaries.scoutAt(0, 0, 0, 1).does("addLight", 2, 0, 0, 1).does("setFogTime", 1).due(1, "known", 0, 2, 0, 0)
                .does("pass", 1).due(0, "known", 0, 2, 0, 0).due(NONE, "known", 0, 2, 0, 3);
    }

    static void promise14IsOneAction() {
        lightOf(50).does("pass", 99).due(2, "count", 10).due(1, "undo").due(0, "count", 5).due(50, "light", 0, 3);
    }

    // ---- Promise 15: undo

    private static Run heights(int last) {
        Run run = new Run();
        for (int height = 1; height <= last; height++) {
            run.does("setHeight", 0, 0, height);
        }
        return run;
    }

    /** Undoes all states, each of which brings the height before, and then one too many. */
    private static void undoneDownTo(Run run, int latest, int last) {
        for (int height = latest; height >= last; height--) {
            run.due(height - last, "undo").due(height, "cell", 0, 0, 0).due(height - last, "count", 10);
        }
        run.refused(ILLEGAL, "undo");
    }

    static void promise15EmptyHistory() {
        new Run().refused(ILLEGAL, "undo");
    }

    static void promise15OneState() {
        undoneDownTo(heights(1), 0, 0);
    }

    static void promise15FiveStates() {
        undoneDownTo(heights(5).due(5, "count", 10), 4, 0);
    }

    static void promise15TheSixthStateDropsTheOldest() {
        undoneDownTo(heights(6).due(5, "count", 10), 5, 1);
    }

    static void promise15TheSeventhState() {
        undoneDownTo(heights(7).due(5, "count", 10), 6, 2);
    }

    static void promise15TwiceRoundTheHistory() {
        Run run = new Run();
        for (int i = 0; i < 23; i++) {
            run.does("setHeight", 0, 0, i % 10);
        }
        for (int i = 21; i >= 17; i--) {
            run.due(i - 17, "undo").due(i % 10, "cell", 0, 0, 0);
        }
        run.refused(ILLEGAL, "undo");
    }

    static void promise15NewStatesBehindAnUndo() {
        Run run = heights(5).does("undo").does("undo").due(3, "cell", 0, 0, 0).does("setHeight", 0, 0, 4)
                .does("setHeight", 0, 0, 5).due(5, "count", 10).does("setHeight", 0, 0, 6).due(5, "count", 10);
        undoneDownTo(run, 5, 1);
    }

    static void promise15IsNoAction() {
        heights(3).does("undo").due(2, "count", 10).does("undo").due(1, "count", 10).due(1, "cell", 0, 0, 0);
    }

    static void promise15AFullHistoryThatIsEmptiedFillsAgain() {
        Run run = heights(8);
        for (int left = 4; left >= 0; left--) {
            run.due(left, "undo");
        }
        undoneDownTo(run.does("setHeight", 0, 0, 4).due(1, "count", 10), 3, 3);
    }

    static void promise15RefusedCallsAreNotRecorded() {
        Boundaries.scoutAt(0, 0, 0, 1).due(ILLEGAL, "setWall", 0, 0, 1).due(INVALID, "setHeight", 0, 0, 10)
                .due(ILLEGAL, "step", 0, -1, 0).due(INVALID, "pass", 0).due(ILLEGAL, "addScout", 0, 0, 0, 1)
                .writes("x").due(-1000, "load").due(1, "count", 10).due(0, "undo").due(ILLEGAL, "undo");
    }

    static void promise15QuestionsAreNotRecorded() {
        Boundaries.scoutAt(0, 0, 0, 1).does("count", 0).does("cell", 0, 0, 0).does("scout", 0, 0)
                .does("known", 0, 0, 0, 0).does("view", 0, 0, 5, 5).does("way", 0, 1, 1).does("lookout", 0, 5)
                .does("alone", 0).due(1, "count", 10);
    }

    static void promise15TheTextStays() {
        new Run().writes("12;").does("setHeight", 0, 0, 5).writes("3").due(0, "undo").due(4, "count", 11)
                .due(-1004, "load").due(4, "clearText");
        new Run().writes("7;").does("load").due(0, "undo").due(0, "count", 11).due(0, "load").due(0, "cell", 0, 0, 0);
    }

    static void promise15TheTextStaysEmptyAndFull() {
        heights(1).due(0, "undo").due(0, "count", 11);
        Boundaries.full().due(4, "undo").due(120, "count", 11).refused(FULL, "append", ' ');
    }

    static void promise15EachActionAtFullListsIsUndone() {
        Call[] actions = {Call.of("setHeight", 9, 9, 9), Call.of("setWall", 5, 5, 0), Call.of("step", 9, 0, 1),
            Call.of("removeScout", 0), Call.of("removeScout", 9), Call.of("setOil", 5, 0), Call.of("removeLight", 0),
            Call.of("removeLight", 5), Call.of("setFogTime", 1), Call.of("pass", 99)};
        for (Call action : actions) {
            isUndone(Boundaries.crowd(10, 6), action);
        }
    }

    static void promise15EachActionThatFillsAListIsUndone() {
        isUndone(Boundaries.crowd(9, 5), Call.of("addScout", 1, 11, 9, 8));
        isUndone(Boundaries.crowd(9, 5), Call.of("addLight", 11, 9, 4, 50));
    }

    static void promise15EachActionThatEmptiesAListIsUndone() {
        isUndone(Boundaries.scoutAt(1, 3, 3, 2), Call.of("removeScout", 0));
        isUndone(lightOf(3), Call.of("removeLight", 0));
        isUndone(lightOf(1), Call.of("pass", 1));
        isUndone(new Run(), Call.of("addScout", 0, 0, 0, 8));
        isUndone(new Run(), Call.of("addLight", 0, 0, 0, 50));
    }

    /** An action and its undo change nothing but the history. */
    private static void isUndone(Run run, Call action) {
        List<Integer> before = run.answersButHistory();
        run.does(action.name(), action.arguments()).does("undo");
        Checks.equal("all answers after the undo of " + action, before, run.answersButHistory());
    }

    static void promise15TheOldestStateComesBackWhole() {
        Run run = Boundaries.crowd(10, 6);
        List<Integer> before = run.answersButHistory();
        run.does("pass", 50).does("removeScout", 3).does("removeLight", 2).does("setFogTime", 2).does("setHeight", 0, 0, 9);
        for (int left = 4; left >= 0; left--) {
            run.due(left, "undo");
        }
        Checks.equal("all answers after five undos", before, run.answersButHistory());
    }

    static void promise15TheViewBehindAnUndo() {
        new Run().does("setWall", 5, 5, 1).due(0, "view", 4, 5, 6, 5).does("setWall", 5, 5, 0).due(1, "view", 4, 5, 6, 5)
                .does("undo").due(0, "view", 4, 5, 6, 5).does("undo").due(1, "view", 4, 5, 6, 5);
        new Run().does("setHeight", 5, 5, 1).due(0, "view", 4, 5, 6, 5).writes(";;;;;00000;").does("load")
                .due(0, "view", 4, 5, 6, 5).writes(";;;;;000000;").does("load").due(1, "view", 4, 5, 6, 5)
                .does("undo").due(0, "view", 4, 5, 6, 5);
    }

    static void promise15TheWayBehindAnUndo() {
        Boundaries.scoutAt(0, 5, 5, 1).does("setWall", 6, 5, 1).due(NONE, "way", 0, 6, 5).does("setWall", 6, 5, 0)
                .due(1, "way", 0, 6, 5).does("undo").due(NONE, "way", 0, 6, 5);
        Boundaries.scoutAt(0, 5, 5, 1).does("step", 0, 1, 0).due(2, "way", 0, 4, 5).does("pass", 10)
                .due(NONE, "way", 0, 4, 5).does("undo").due(2, "way", 0, 4, 5).does("undo").due(1, "way", 0, 4, 5);
    }

    static void promise15TheLookoutBehindAnUndo() {
        Boundaries.scoutAt(0, 5, 5, 1).due(404, "lookout", 0, 1).does("setWall", 4, 4, 1).due(405, "lookout", 0, 1)
                .does("undo").due(404, "lookout", 0, 1);
        Boundaries.scoutAt(0, 5, 5, 1).does("addLight", 7, 2, 0, 1).due(504, "lookout", 0, 1).does("pass", 1)
                .due(404, "lookout", 0, 1).does("undo").due(504, "lookout", 0, 1);
    }

    static void promise15WhatIsSeenBehindAnUndo() {
        Boundaries.scoutAt(0, 5, 5, 1).does("addScout", 0, 6, 5, 1).due(3, "alone", 0).does("removeScout", 1)
                .due(9, "alone", 0).does("undo").due(3, "alone", 0).due(12, "count", 6);
        Boundaries.scoutAt(0, 5, 5, 1).does("addScout", 1, 6, 5, 1).due(1, "scout", 1, 5).does("step", 1, 1, 0)
                .due(0, "scout", 1, 5).does("undo").due(1, "scout", 1, 5).due(1, "known", 0, 6, 5, 3);
        Boundaries.scoutAt(0, 0, 0, 1).does("addLight", 2, 0, 0, 1).does("pass", 1).due(0, "known", 0, 2, 0, 4)
                .does("undo").due(1, "known", 0, 2, 0, 4).due(10, "known", 0, 2, 0, 0).due(1, "count", 3);
    }

    static void promise15WhatIsKnownBehindAnUndo() {
        Boundaries.scoutAt(0, 5, 5, 1).does("setHeight", 6, 5, 4).due(4, "known", 0, 6, 5, 1)
                .does("undo").due(0, "known", 0, 6, 5, 1).due(10, "known", 0, 6, 5, 0);
        Boundaries.scoutAt(0, 5, 5, 1).does("setHeight", 6, 5, 4).does("step", 0, -1, 0).does("setHeight", 6, 5, 7)
                .does("step", 0, 1, 0).due(7, "known", 0, 6, 5, 1).does("undo").due(4, "known", 0, 6, 5, 1)
                .does("undo").due(4, "known", 0, 6, 5, 1).due(4, "cell", 6, 5, 0);
        Boundaries.scoutAt(0, 5, 5, 1).does("step", 0, 1, 0).due(12, "count", 8).does("undo").due(9, "count", 8)
                .due(0, "known", 0, 7, 5, 0).due(NONE, "known", 0, 7, 5, 1);
    }

    static void promise15MemoriesFadeOnBehindAnUndo() {
        Boundaries.scoutAt(0, 5, 5, 1).does("step", 0, 1, 0).does("pass", 4).does("pass", 3).due(3, "known", 0, 4, 5, 0)
                .does("undo").due(6, "known", 0, 4, 5, 0).does("pass", 5).due(1, "known", 0, 4, 5, 0)
                .due(10, "known", 0, 5, 5, 0).does("pass", 1).due(0, "known", 0, 4, 5, 0);
    }

    static void promise15LightsBurnOnBehindAnUndo() {
        lightOf(3).due(0, "pass", 2).does("undo").due(0, "pass", 2).due(1, "pass", 1).due(3, "count", 5)
                .does("undo").due(2, "count", 5).due(1, "light", 0, 3).due(1, "pass", 1);
    }

    static void promise15TheFogTimeBehindAnUndo() {
        Boundaries.scoutAt(0, 5, 5, 1).does("setFogTime", 50).due(50, "known", 0, 5, 5, 0).does("undo")
                .due(10, "known", 0, 5, 5, 0).due(10, "count", 4).does("pass", 1).due(10, "known", 0, 5, 5, 0);
    }

    static void promise15TheSameActionAgainBehindAnUndo() {
        Boundaries.scoutAt(0, 5, 5, 1).due(3, "step", 0, 1, 0).does("undo").due(3, "step", 0, 1, 0)
                .due(0, "step", 0, -1, 0).does("undo").due(0, "step", 0, -1, 0).due(3, "count", 10);
        new Run().due(0, "addScout", 0, 5, 5, 1).does("undo").due(0, "addScout", 1, 5, 5, 1).due(1, "scout", 0, 0);
        lightOf(5).due(5, "setOil", 0, 9).does("undo").due(5, "setOil", 0, 7).due(7, "light", 0, 3);
    }

    static void promise15RefusedAsBeforeBehindAnUndo() {
        Boundaries.scoutAt(0, 5, 5, 1).does("removeScout", 0).does("undo").refused(ILLEGAL, "setWall", 5, 5, 1)
                .refused(ILLEGAL, "addScout", 1, 5, 5, 1).writes(";;;;;00000#;").refused(-1010, "load");
        Boundaries.crowd(10, 6).does("removeScout", 4).does("removeLight", 4).does("undo").does("undo")
                .refused(FULL, "addScout", 0, 11, 9, 1).refused(FULL, "addLight", 0, 0, 0, 0);
    }
}
