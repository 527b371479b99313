/** The boundary cases of the promises 10 to 12: lights that are added, filled, and removed. */
public final class LightBoundaryTest {
    private static final int INVALID = FogMap.INVALID_ARGUMENT;
    private static final int FULL = FogMap.CAPACITY_EXCEEDED;

    private LightBoundaryTest() {
    }

    public static void main(String[] args) {
        Boundaries.test(LightBoundaryTest.class, 10, 12);
    }

    private static Run lightAt(int column, int row, int radius, int oil) {
        return new Run().does("addLight", column, row, radius, oil);
    }

    // ---- Promise 10: addLight

    static void promise10ColumnFrom0To11() {
        Boundaries.crowd(10, 5).bounds("addLight", new int[] {5, 5, 1, 1}, 0, 0, 11);
        lightAt(0, 5, 1, 1).due(6, "count", 3).due(1, "cell", 0, 4, 2).due(0, "cell", 11, 4, 2).due(0, "cell", 11, 5, 2);
        lightAt(11, 5, 1, 1).due(6, "count", 3).due(1, "cell", 11, 6, 2).due(0, "cell", 0, 6, 2).due(0, "cell", 0, 5, 2);
    }

    static void promise10RowFrom0To9() {
        Boundaries.crowd(10, 5).bounds("addLight", new int[] {5, 5, 1, 1}, 1, 0, 9);
        lightAt(5, 0, 1, 1).due(6, "count", 3).due(0, "light", 0, 1);
        lightAt(5, 9, 1, 1).due(6, "count", 3).due(9, "light", 0, 1);
    }

    static void promise10RadiusFrom0To4() {
        Boundaries.crowd(10, 5).bounds("addLight", new int[] {5, 5, 1, 1}, 2, 0, 4);
        lightAt(5, 5, 0, 1).due(1, "count", 3).due(1, "cell", 5, 5, 2).due(0, "cell", 6, 5, 2).due(0, "cell", 5, 4, 2);
        lightAt(5, 5, 4, 1).due(81, "count", 3).due(1, "cell", 9, 9, 2).due(0, "cell", 10, 5, 2).due(0, "cell", 5, 0, 2);
    }

    static void promise10OilFrom0To50() {
        Boundaries.crowd(10, 5).bounds("addLight", new int[] {5, 5, 1, 1}, 3, 0, 50);
        lightAt(5, 5, 1, 0).due(1, "count", 1).due(0, "count", 2).due(0, "count", 3);
        lightAt(5, 5, 1, 1).due(1, "count", 1).due(1, "count", 2).due(9, "count", 3);
        lightAt(5, 5, 1, 50).due(1, "count", 2).due(50, "light", 0, 3);
    }

    static void promise10The6thAndThe7thLight() {
        Boundaries.crowd(10, 5).due(5, "addLight", 11, 9, 4, 50).due(6, "count", 1)
                .refused(FULL, "addLight", 0, 0, 0, 0).refused(FULL, "addLight", 11, 9, 4, 50);
    }

    static void promise10OutOfRangeComesBeforeThe7thLight() {
        Boundaries.full().refused(INVALID, "addLight", 12, 0, 0, 0).refused(INVALID, "addLight", 0, 10, 0, 0)
                .refused(INVALID, "addLight", 0, 0, 5, 0).refused(INVALID, "addLight", 0, 0, 0, 51);
    }

    static void promise10LightsThatWentOutTakeRoom() {
        Run run = new Run();
        for (int light = 0; light < 6; light++) {
            run.due(light, "addLight", 0, 0, 0, 0);
        }
        run.due(6, "count", 1).due(0, "count", 2).refused(FULL, "addLight", 0, 0, 0, 0)
                .does("removeLight", 0).due(5, "addLight", 0, 0, 0, 0);
    }

    static void promise10OnAWallAScoutAndALight() {
        new Run().does("setWall", 5, 5, 1).due(0, "addLight", 5, 5, 0, 1).does("addScout", 0, 3, 3, 1)
                .due(1, "addLight", 3, 3, 0, 1).due(2, "addLight", 3, 3, 0, 1).due(2, "count", 3);
    }

    static void promise10LightInTheCorners() {
        lightAt(0, 0, 4, 1).due(25, "count", 3).due(1, "cell", 4, 4, 2).due(0, "cell", 5, 4, 2).due(0, "cell", 4, 5, 2);
        lightAt(11, 9, 4, 1).due(25, "count", 3).due(1, "cell", 7, 5, 2).due(0, "cell", 6, 5, 2).due(0, "cell", 7, 4, 2);
    }

    static void promise10WallsAndHeightsDoNotStopLight() {
        new Run().does("setWall", 6, 5, 1).does("setHeight", 4, 5, 9).does("addLight", 5, 5, 2, 1)
                .due(25, "count", 3).due(1, "cell", 7, 5, 2).due(1, "cell", 3, 5, 2).due(1, "cell", 6, 5, 2);
    }

    static void promise10OilOf0IsNotSeenBy() {
        Boundaries.scoutAt(0, 0, 0, 1).does("addLight", 2, 0, 0, 0).due(0, "known", 0, 2, 0, 4)
                .does("addLight", 2, 0, 0, 1).due(1, "known", 0, 2, 0, 4);
    }

    // ---- Promise 11: setOil

    static void promise11LightFrom0ToTheLastOf6() {
        Boundaries.full().bounds("setOil", new int[] {0, 7}, 0, 0, 5);
    }

    static void promise11TheOnlyLight() {
        lightAt(3, 3, 1, 5).bounds("setOil", new int[] {0, 7}, 0, 0, 0);
    }

    static void promise11NoLights() {
        new Run().refused(INVALID, "setOil", 0, 1).refused(INVALID, "setOil", -1, 1);
    }

    static void promise11OilFrom0To50() {
        Boundaries.full().bounds("setOil", new int[] {5, 7}, 1, 0, 50);
        lightAt(3, 3, 1, 5).due(5, "setOil", 0, 50).due(50, "setOil", 0, 0).due(0, "setOil", 0, 1).due(1, "light", 0, 3);
    }

    static void promise11Oil0And1() {
        lightAt(3, 3, 1, 1).due(9, "count", 3).due(1, "setOil", 0, 0).due(0, "count", 2).due(0, "count", 3)
                .due(0, "setOil", 0, 1).due(1, "count", 2).due(9, "count", 3);
    }

    static void promise11TheSameOilIsAnAction() {
        lightAt(3, 3, 1, 5).due(5, "setOil", 0, 5).due(2, "count", 10);
    }

    static void promise11ACellThatIsNoLongerLitIsRemembered() {
        Boundaries.scoutAt(0, 0, 0, 1).does("addLight", 2, 0, 0, 1).due(10, "known", 0, 2, 0, 0)
                .does("setOil", 0, 0).due(0, "known", 0, 2, 0, 4).due(10, "known", 0, 2, 0, 0);
    }

    // ---- Promise 12: removeLight

    static void promise12LightFrom0ToTheLastOf6() {
        Boundaries.full().bounds("removeLight", new int[] {0}, 0, 0, 5);
    }

    static void promise12NoLights() {
        new Run().refused(INVALID, "removeLight", 0).refused(INVALID, "removeLight", -1)
                .refused(INVALID, "removeLight", Integer.MIN_VALUE).refused(INVALID, "removeLight", Integer.MAX_VALUE);
    }

    static void promise12TheOnlyLight() {
        lightAt(3, 3, 1, 5).bounds("removeLight", new int[] {0}, 0, 0, 0).due(0, "removeLight", 0)
                .due(0, "count", 1).due(0, "count", 3).refused(INVALID, "removeLight", 0);
    }

    static void promise12TheFirstOf6() {
        Boundaries.full().due(5, "removeLight", 0).due(2, "light", 0, 0).due(8, "light", 0, 1).due(1, "light", 0, 2)
                .due(0, "light", 0, 3).due(10, "light", 4, 0).due(12, "light", 4, 3).refused(INVALID, "light", 5, 0);
    }

    static void promise12TheLastOf6() {
        Boundaries.full().due(5, "removeLight", 5).due(0, "light", 0, 0).due(8, "light", 4, 0).refused(INVALID, "light", 5, 0);
    }

    static void promise12AllOf6() {
        Run run = Boundaries.full();
        for (int left = 5; left >= 0; left--) {
            run.due(left, "removeLight", left / 2);
        }
        run.due(0, "count", 2).due(0, "count", 3).refused(INVALID, "removeLight", 0);
    }

    static void promise12ALightThatWentOut() {
        lightAt(3, 3, 1, 1).does("pass", 1).due(0, "removeLight", 0).due(0, "pass", 1);
    }

    static void promise12LitByAnotherLight() {
        lightAt(3, 3, 1, 1).does("addLight", 4, 3, 1, 1).due(1, "removeLight", 0).due(1, "cell", 3, 3, 2)
                .due(0, "cell", 2, 3, 2).due(9, "count", 3);
    }
}
