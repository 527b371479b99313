/** The boundary cases of the promises 7 to 9: scouts that are added, step, and are removed. */
public final class ScoutBoundaryTest {
    private static final int INVALID = FogMap.INVALID_ARGUMENT;
    private static final int ILLEGAL = FogMap.ILLEGAL_STATE;
    private static final int FULL = FogMap.CAPACITY_EXCEEDED;
    private static final int NONE = FogMap.NONE;

    private ScoutBoundaryTest() {
    }

    public static void main(String[] args) {
        Boundaries.test(ScoutBoundaryTest.class, 7, 9);
    }

    // ---- Promise 7: addScout

    static void promise7Side0Or1() {
        Boundaries.crowd(9, 6).bounds("addScout", new int[] {0, 9, 9, 1}, 0, 0, 1);
        Boundaries.scoutAt(0, 3, 3, 1).does("addScout", 1, 8, 8, 1).due(0, "scout", 0, 0).due(1, "scout", 1, 0)
                .due(9, "count", 6).due(9, "count", 7);
    }

    static void promise7ColumnFrom0To11() {
        Boundaries.crowd(9, 6).bounds("addScout", new int[] {0, 9, 9, 1}, 1, 0, 11);
        Boundaries.scoutAt(0, 0, 5, 1).does("addScout", 1, 11, 5, 1).due(0, "scout", 0, 1).due(11, "scout", 1, 1)
                .due(6, "count", 6).due(6, "count", 7);
    }

    static void promise7RowFrom0To9() {
        Boundaries.crowd(9, 6).bounds("addScout", new int[] {0, 9, 9, 1}, 2, 0, 9);
        Boundaries.scoutAt(0, 5, 0, 1).does("addScout", 1, 5, 9, 1).due(0, "scout", 0, 2).due(9, "scout", 1, 2)
                .due(6, "count", 6).due(6, "count", 7);
    }

    static void promise7RangeFrom1To8() {
        Boundaries.crowd(9, 6).bounds("addScout", new int[] {0, 9, 9, 1}, 3, 1, 8);
        Boundaries.scoutAt(0, 0, 0, 1).due(4, "count", 6).due(0, "known", 0, 2, 0, 4);
        Boundaries.scoutAt(0, 0, 0, 8).due(81, "count", 6).due(1, "known", 0, 8, 8, 4).due(0, "known", 0, 9, 0, 4);
    }

    static void promise7The10thAndThe11thScout() {
        Boundaries.crowd(9, 6).due(9, "addScout", 1, 11, 9, 8).due(10, "count", 0)
                .refused(FULL, "addScout", 0, 0, 9, 1).refused(FULL, "addScout", 1, 0, 9, 1);
    }

    static void promise7RoomAgainBehindRemoveScoutAndUndo() {
        Boundaries.full().does("removeScout", 0).due(9, "addScout", 0, 11, 9, 1).refused(FULL, "addScout", 0, 0, 9, 1);
        Boundaries.crowd(9, 6).does("addScout", 0, 11, 9, 1).does("undo").due(9, "addScout", 1, 0, 9, 1);
    }

    static void promise7WalledCell() {
        new Run().does("setWall", 5, 5, 1).refused(ILLEGAL, "addScout", 0, 5, 5, 1)
                .does("setWall", 5, 5, 0).due(0, "addScout", 0, 5, 5, 1);
    }

    static void promise7CellOfAScout() {
        Boundaries.scoutAt(0, 5, 5, 1).refused(ILLEGAL, "addScout", 0, 5, 5, 1).refused(ILLEGAL, "addScout", 1, 5, 5, 8);
    }

    static void promise7CellWhereAScoutStoodBefore() {
        Boundaries.scoutAt(0, 5, 5, 1).does("step", 0, 1, 0).due(1, "addScout", 1, 5, 5, 1)
                .does("removeScout", 0).due(1, "addScout", 1, 6, 5, 1);
    }

    static void promise7OutOfRangeComesBeforeTheCell() {
        new Run().does("setWall", 5, 5, 1).does("addScout", 0, 4, 4, 1)
                .refused(INVALID, "addScout", 2, 5, 5, 1).refused(INVALID, "addScout", -1, 4, 4, 1)
                .refused(INVALID, "addScout", 0, 5, 5, 0).refused(INVALID, "addScout", 0, 4, 4, 9);
    }

    static void promise7OutOfRangeComesBeforeThe11thScout() {
        Boundaries.full().refused(INVALID, "addScout", 2, 11, 9, 1).refused(INVALID, "addScout", 0, 12, 9, 1)
                .refused(INVALID, "addScout", 0, 11, 10, 1).refused(INVALID, "addScout", 0, 11, 9, 0)
                .refused(INVALID, "addScout", 0, 11, 9, 9);
    }

    static void promise7TheCellComesBeforeThe11thScout() {
        Boundaries.full().refused(ILLEGAL, "addScout", 0, 5, 5, 1).refused(ILLEGAL, "addScout", 0, 0, 0, 1)
                .refused(ILLEGAL, "addScout", 1, 9, 0, 1);
    }

    static void promise7OnALightAndOnAHighCell() {
        new Run().does("setHeight", 3, 3, 9).does("addLight", 3, 3, 0, 1).due(0, "addScout", 0, 3, 3, 1)
                .due(0, "cell", 3, 3, 3);
    }

    // ---- Promise 8: step

    static void promise8ScoutFrom0ToTheLastOf10() {
        Boundaries.full().bounds("step", new int[] {0, 0, 1}, 0, 0, 9);
    }

    static void promise8TheOnlyScout() {
        Boundaries.scoutAt(0, 5, 5, 1).bounds("step", new int[] {0, 0, 1}, 0, 0, 0);
    }

    static void promise8NoScouts() {
        new Run().refused(INVALID, "step", 0, 1, 0).refused(INVALID, "step", -1, 1, 0);
    }

    static void promise8ANumberThatNoLongerExists() {
        Boundaries.scoutAt(0, 5, 5, 1).does("addScout", 0, 8, 8, 1).does("removeScout", 0)
                .refused(INVALID, "step", 1, 1, 0).due(3, "step", 0, 1, 0).due(9, "scout", 0, 1);
    }

    static void promise8AcrossFromMinus1To1() {
        Boundaries.full().bounds("step", new int[] {2, 0, 1}, 1, -1, 1);
    }

    static void promise8DownFromMinus1To1() {
        Boundaries.full().bounds("step", new int[] {5, 1, 0}, 2, -1, 1);
        Boundaries.scoutAt(0, 5, 5, 1).bounds("step", new int[] {0, 1, 0}, 2, -1, 1);
    }

    static void promise8NeitherAcrossNorDown() {
        Boundaries.scoutAt(0, 5, 5, 1).refused(INVALID, "step", 0, 0, 0);
        Boundaries.full().refused(INVALID, "step", 9, 0, 0);
    }

    static void promise8AllNeighbors() {
        for (int across = -1; across <= 1; across++) {
            for (int down = -1; down <= 1; down++) {
                if (across != 0 || down != 0) {
                    Boundaries.scoutAt(0, 5, 5, 1).due(across == 0 || down == 0 ? 3 : 5, "step", 0, across, down)
                            .due(5 + across, "scout", 0, 1).due(5 + down, "scout", 0, 2);
                }
            }
        }
    }

    static void promise8BeyondTheFirstCell() {
        Boundaries.scoutAt(0, 0, 0, 1).refused(ILLEGAL, "step", 0, -1, 0).refused(ILLEGAL, "step", 0, 0, -1)
                .refused(ILLEGAL, "step", 0, -1, -1).refused(ILLEGAL, "step", 0, -1, 1).refused(ILLEGAL, "step", 0, 1, -1);
    }

    static void promise8BeyondTheLastCell() {
        Boundaries.scoutAt(1, 11, 9, 1).refused(ILLEGAL, "step", 0, 1, 0).refused(ILLEGAL, "step", 0, 0, 1)
                .refused(ILLEGAL, "step", 0, 1, 1).refused(ILLEGAL, "step", 0, 1, -1).refused(ILLEGAL, "step", 0, -1, 1);
    }

    static void promise8BeyondTheSides() {
        Boundaries.scoutAt(0, 0, 5, 1).refused(ILLEGAL, "step", 0, -1, 0).refused(ILLEGAL, "step", 0, -1, 1);
        Boundaries.scoutAt(0, 11, 5, 1).refused(ILLEGAL, "step", 0, 1, 0).refused(ILLEGAL, "step", 0, 1, -1);
        Boundaries.scoutAt(0, 5, 0, 1).refused(ILLEGAL, "step", 0, 0, -1).refused(ILLEGAL, "step", 0, 1, -1);
        Boundaries.scoutAt(0, 5, 9, 1).refused(ILLEGAL, "step", 0, 0, 1).refused(ILLEGAL, "step", 0, -1, 1);
    }

    static void promise8OutOfRangeComesBeforeTheBorder() {
        Boundaries.scoutAt(0, 0, 0, 1).refused(INVALID, "step", 0, -2, 0).refused(INVALID, "step", 0, -1, -2)
                .refused(INVALID, "step", 1, -1, -1);
    }

    static void promise8IntoAWall() {
        Boundaries.scoutAt(0, 5, 5, 1).does("setWall", 6, 5, 1).refused(ILLEGAL, "step", 0, 1, 0)
                .does("setWall", 6, 5, 0).due(3, "step", 0, 1, 0);
    }

    static void promise8BetweenWallsAslant() {
        Boundaries.scoutAt(0, 5, 5, 1).does("setWall", 6, 5, 1).does("setWall", 5, 6, 1).due(5, "step", 0, 1, 1);
    }

    static void promise8OntoAScout() {
        Boundaries.scoutAt(0, 5, 5, 1).does("addScout", 0, 6, 5, 1).does("addScout", 1, 5, 6, 1)
                .refused(ILLEGAL, "step", 0, 1, 0).refused(ILLEGAL, "step", 0, 0, 1).refused(ILLEGAL, "step", 2, 0, -1);
    }

    static void promise8Up2And3() {
        Boundaries.scoutAt(0, 5, 5, 1).does("setHeight", 6, 5, 2).does("setHeight", 5, 6, 3)
                .refused(ILLEGAL, "step", 0, 0, 1).due(3, "step", 0, 1, 0);
    }

    static void promise8Down2And3() {
        Boundaries.scoutAt(0, 5, 5, 1).does("setHeight", 5, 5, 9).does("setHeight", 6, 5, 7).does("setHeight", 5, 6, 6)
                .refused(ILLEGAL, "step", 0, 0, 1).due(3, "step", 0, 1, 0);
    }

    static void promise8From0To9AndBack() {
        Boundaries.scoutAt(0, 5, 5, 1).does("setHeight", 6, 5, 9).refused(ILLEGAL, "step", 0, 1, 0)
                .does("setHeight", 5, 5, 9).does("setHeight", 6, 5, 0).refused(ILLEGAL, "step", 0, 1, 0);
    }

    static void promise8CountsNoneWithoutFog() {
        Boundaries.scoutAt(0, 5, 5, 1).does("step", 0, 1, 0).due(0, "step", 0, -1, 0);
        new Run().does("addScout", 0, 5, 5, 8).does("addScout", 0, 11, 0, 8).due(120, "count", 8).due(0, "step", 0, 1, 0);
    }

    static void promise8CountsTheFirstAndTheLastCell() {
        Boundaries.scoutAt(0, 1, 2, 1).due(3, "step", 0, 0, -1).due(10, "known", 0, 0, 0, 0);
        Boundaries.scoutAt(0, 2, 2, 1).due(5, "step", 0, -1, -1).due(10, "known", 0, 0, 0, 0);
        Boundaries.scoutAt(1, 9, 7, 1).due(5, "step", 0, 1, 1).due(10, "known", 1, 11, 9, 0);
        Boundaries.scoutAt(1, 10, 8, 1).due(0, "step", 0, 1, 1);
    }

    static void promise8AMemoryOf1IsNoFog() {
        Boundaries.scoutAt(0, 5, 5, 1).does("step", 0, 1, 0).does("pass", 9).due(1, "known", 0, 4, 5, 0)
                .due(0, "step", 0, -1, 0).due(10, "known", 0, 4, 5, 0);
    }

    static void promise8AMemoryOf0IsFog() {
        Boundaries.scoutAt(0, 5, 5, 1).does("step", 0, 1, 0).does("pass", 10).due(0, "known", 0, 4, 5, 0)
                .due(3, "step", 0, -1, 0).due(10, "known", 0, 4, 5, 0);
    }

    static void promise8OnlyItsOwnSideCounts() {
        Boundaries.scoutAt(0, 5, 5, 1).does("addScout", 1, 6, 6, 8).due(3, "step", 0, 1, 0).due(0, "step", 1, 0, 1);
    }

    static void promise8ASideThatSeesAllCountsNone() {
        Boundaries.scoutAt(0, 0, 0, 1).does("addScout", 0, 5, 5, 8).due(0, "step", 0, 1, 1);
    }

    static void promise8TheKnownMapDoesNotMatter() {
        Boundaries.scoutAt(0, 5, 5, 1).does("addScout", 1, 6, 5, 1).does("removeScout", 1)
                .due(3, "step", 0, 1, 0);
    }

    // ---- Promise 9: removeScout

    static void promise9ScoutFrom0ToTheLastOf10() {
        Boundaries.full().bounds("removeScout", new int[] {0}, 0, 0, 9);
    }

    static void promise9NoScouts() {
        new Run().refused(INVALID, "removeScout", 0).refused(INVALID, "removeScout", -1)
                .refused(INVALID, "removeScout", Integer.MIN_VALUE).refused(INVALID, "removeScout", Integer.MAX_VALUE);
    }

    static void promise9TheOnlyScout() {
        Boundaries.scoutAt(0, 5, 5, 1).bounds("removeScout", new int[] {0}, 0, 0, 0).due(0, "removeScout", 0)
                .due(0, "count", 0).due(NONE, "cell", 5, 5, 3).due(0, "count", 6).due(9, "count", 8)
                .refused(INVALID, "removeScout", 0);
    }

    static void promise9TheFirstOf10() {
        Boundaries.full().due(9, "removeScout", 0).due(NONE, "cell", 0, 0, 3).due(0, "cell", 1, 1, 3)
                .due(8, "cell", 9, 0, 3).due(1, "scout", 0, 0).due(2, "scout", 8, 3).refused(INVALID, "scout", 9, 0);
    }

    static void promise9TheLastOf10() {
        Boundaries.full().due(9, "removeScout", 9).due(0, "cell", 0, 0, 3).due(8, "cell", 8, 2, 3)
                .due(NONE, "cell", 9, 0, 3).refused(INVALID, "scout", 9, 0);
    }

    static void promise9AllOf10() {
        Run run = Boundaries.full();
        for (int left = 9; left >= 0; left--) {
            run.due(left, "removeScout", left / 2);
        }
        run.due(0, "count", 6).due(0, "count", 7).refused(INVALID, "removeScout", 0);
    }

    static void promise9ARemovedScoutIsStillKnownOutOfSight() {
        Boundaries.scoutAt(0, 5, 5, 1).does("addScout", 1, 6, 5, 1).does("step", 0, -1, 0).does("removeScout", 1)
                .due(1, "known", 0, 6, 5, 3).due(10, "known", 0, 6, 5, 0);
    }

    static void promise9ARemovedScoutIsForgottenInSight() {
        Boundaries.scoutAt(0, 5, 5, 1).does("addScout", 1, 6, 5, 1).due(1, "known", 0, 6, 5, 3)
                .does("removeScout", 1).due(0, "known", 0, 6, 5, 3);
    }
}
