/** The boundary cases of the promises 16 to 20: what can be counted and looked at. */
public final class LookingBoundaryTest {
    private static final int INVALID = FogMap.INVALID_ARGUMENT;
    private static final int NONE = FogMap.NONE;

    private LookingBoundaryTest() {
    }

    public static void main(String[] args) {
        Boundaries.test(LookingBoundaryTest.class, 16, 20);
    }

    /** Four lights of radius 4 that light all 120 cells together. */
    private static Run allLit() {
        return new Run().does("addLight", 4, 4, 4, 50).does("addLight", 7, 4, 4, 50).does("addLight", 4, 5, 4, 50)
                .does("addLight", 7, 5, 4, 50);
    }

    // ---- Promise 16: count

    static void promise16WhatFrom0To11() {
        Boundaries.full().bounds("count", new int[] {0}, 0, 0, 11);
        new Run().bounds("count", new int[] {0}, 0, 0, 11);
    }

    static void promise16OfANewObject() {
        Run run = new Run();
        for (int what = 0; what <= 11; what++) {
            run.due(what == 4 ? 10 : 0, "count", what);
        }
    }

    static void promise16Scouts0To10() {
        new Run().due(0, "count", 0).does("addScout", 0, 0, 0, 1).due(1, "count", 0);
        Boundaries.full().due(10, "count", 0);
    }

    static void promise16Lights0To6() {
        new Run().due(0, "count", 1).does("addLight", 0, 0, 0, 0).due(1, "count", 1);
        Boundaries.full().due(6, "count", 1);
    }

    static void promise16BurningLights0To6() {
        Run run = new Run();
        for (int light = 0; light < 6; light++) {
            run.does("addLight", 0, 0, 0, 0).due(0, "count", 2);
        }
        for (int light = 0; light < 6; light++) {
            run.does("setOil", light, 1).due(light + 1, "count", 2);
        }
        run.does("pass", 1).due(0, "count", 2);
    }

    static void promise16LitCells0To120() {
        allLit().due(120, "count", 3).does("pass", 50).due(0, "count", 3);
        new Run().does("addLight", 0, 0, 0, 1).due(1, "count", 3);
    }

    static void promise16FogTime1To99() {
        new Run().does("setFogTime", 1).due(1, "count", 4).does("setFogTime", 99).due(99, "count", 4);
    }

    static void promise16TurnsOfMostCalls() {
        Run run = new Run();
        for (int call = 1; call < 512; call++) {
            run.does("pass", 99);
        }
        run.due(511 * 99, "count", 5);
    }

    static void promise16SeenCells0To120() {
        allLit().due(0, "count", 6).due(0, "count", 7).does("addScout", 0, 0, 0, 8).due(120, "count", 6)
                .due(0, "count", 7).does("addScout", 1, 11, 9, 8).due(120, "count", 7);
    }

    static void promise16CellsThatAreNotFogged0To120() {
        allLit().due(0, "count", 8).does("addScout", 1, 0, 0, 8).due(120, "count", 9).due(0, "count", 8)
                .does("removeScout", 0).does("pass", 9).due(120, "count", 9).due(0, "count", 7)
                .does("pass", 1).due(0, "count", 9);
    }

    static void promise16States0To5() {
        Run run = new Run();
        for (int action = 1; action <= 7; action++) {
            run.does("setWall", 0, 0, 1).due(Math.min(action, 5), "count", 10);
        }
    }

    static void promise16Text0To120() {
        new Run().due(0, "count", 11).does("append", 1).due(1, "count", 11);
        Boundaries.full().due(120, "count", 11).does("load").due(0, "count", 11);
    }

    // ---- Promise 17: cell

    static void promise17ColumnFrom0To11() {
        Boundaries.full().bounds("cell", new int[] {5, 5, 3}, 0, 0, 11);
        new Run().does("setHeight", 0, 1, 4).does("setHeight", 11, 1, 6).due(4, "cell", 0, 1, 0).due(6, "cell", 11, 1, 0)
                .due(0, "cell", 0, 2, 0).due(0, "cell", 11, 0, 0);
    }

    static void promise17RowFrom0To9() {
        Boundaries.full().bounds("cell", new int[] {5, 5, 3}, 1, 0, 9);
        new Run().does("setHeight", 1, 0, 4).does("setHeight", 1, 9, 6).due(4, "cell", 1, 0, 0).due(6, "cell", 1, 9, 0);
    }

    static void promise17WhatFrom0To3() {
        Boundaries.full().bounds("cell", new int[] {5, 5, 0}, 2, 0, 3);
        new Run().bounds("cell", new int[] {5, 5, 0}, 2, 0, 3);
    }

    static void promise17OutOfRangeComesBeforeNone() {
        new Run().refused(INVALID, "cell", 12, 0, 3).refused(INVALID, "cell", 0, 10, 3).refused(INVALID, "cell", 0, 0, 4);
    }

    static void promise17Height0And9() {
        new Run().due(0, "cell", 3, 3, 0).does("setHeight", 3, 3, 9).due(9, "cell", 3, 3, 0);
    }

    static void promise17LitAtTheRadiusAndBeyond() {
        Run run = new Run().does("addLight", 5, 5, 2, 1);
        run.due(1, "cell", 7, 5, 2).due(1, "cell", 3, 5, 2).due(1, "cell", 5, 7, 2).due(1, "cell", 5, 3, 2)
                .due(1, "cell", 7, 7, 2).due(1, "cell", 3, 3, 2);
        run.due(0, "cell", 8, 5, 2).due(0, "cell", 2, 5, 2).due(0, "cell", 5, 8, 2).due(0, "cell", 5, 2, 2)
                .due(0, "cell", 8, 7, 2).due(0, "cell", 3, 2, 2);
    }

    static void promise17LitByOilOf1And0() {
        new Run().does("addLight", 5, 5, 0, 1).due(1, "cell", 5, 5, 2).does("pass", 1).due(0, "cell", 5, 5, 2);
    }

    static void promise17NoScoutAndTheFirstAndTheLastOf10() {
        Boundaries.full().due(NONE, "cell", 11, 9, 3).due(0, "cell", 0, 0, 3).due(9, "cell", 9, 0, 3)
                .does("removeScout", 0).due(NONE, "cell", 0, 0, 3).due(8, "cell", 9, 0, 3);
    }

    // ---- Promise 18: scout

    static void promise18ScoutFrom0ToTheLastOf10() {
        Boundaries.full().bounds("scout", new int[] {0, 3}, 0, 0, 9);
    }

    static void promise18TheOnlyScout() {
        Boundaries.scoutAt(1, 3, 3, 8).bounds("scout", new int[] {0, 3}, 0, 0, 0);
    }

    static void promise18NoScouts() {
        new Run().refused(INVALID, "scout", 0, 0).refused(INVALID, "scout", -1, 0);
    }

    static void promise18WhatFrom0To5() {
        Boundaries.full().bounds("scout", new int[] {9, 0}, 1, 0, 5);
    }

    static void promise18InTheFirstAndTheLastCell() {
        Run run = Boundaries.scoutAt(0, 0, 0, 1).does("addScout", 1, 11, 9, 8);
        int[][] due = {{0, 0, 0, 1, 4, 0}, {1, 11, 9, 8, 81, 0}};
        for (int what = 0; what <= 5; what++) {
            run.due(due[0][what], "scout", 0, what).due(due[1][what], "scout", 1, what);
        }
    }

    static void promise18SeesAtTheRangeAndBeyond() {
        for (int range = 1; range <= 8; range++) {
            Run run = Boundaries.scoutAt(0, 0, 0, range).due((range + 1) * (range + 1), "scout", 0, 4);
            run.due(1, "known", 0, range, 0, 4).due(1, "known", 0, range, range, 4).due(1, "known", 0, 0, range, 4);
            run.due(0, "known", 0, range + 1, 0, 4).due(0, "known", 0, 0, range + 1, 4);
        }
    }

    static void promise18SeesAtTwiceTheRangeAndBeyond() {
        for (int range = 1; range <= 5; range++) {
            Run run = allLit().does("addScout", 0, 0, 5, range);
            run.due(1, "known", 0, 2 * range, 5, 4).due(0, "known", 0, 2 * range + 1, 5, 4);
        }
        allLit().does("addScout", 0, 0, 5, 6).due(120, "scout", 0, 4);
    }

    static void promise18TwiceTheRangeInLitCellsAlone() {
        Boundaries.scoutAt(0, 0, 0, 2).does("addLight", 4, 0, 0, 1).due(10, "scout", 0, 4)
                .due(1, "known", 0, 4, 0, 4).due(0, "known", 0, 3, 0, 4).due(0, "known", 0, 4, 1, 4)
                .does("pass", 1).due(9, "scout", 0, 4);
        Boundaries.scoutAt(0, 0, 0, 2).does("addLight", 0, 0, 2, 1).due(9, "scout", 0, 4);
    }

    static void promise18SpottedAtTheRangeAndBeyond() {
        Boundaries.scoutAt(0, 0, 0, 3).does("addScout", 1, 3, 0, 1).due(1, "scout", 1, 5).due(0, "scout", 0, 5)
                .does("step", 1, 1, 0).due(0, "scout", 1, 5);
    }

    static void promise18SpottedByLightOfOil1And0() {
        Boundaries.scoutAt(0, 0, 0, 3).does("addScout", 1, 6, 0, 1).does("addLight", 6, 0, 0, 1).due(1, "scout", 1, 5)
                .does("pass", 1).due(0, "scout", 1, 5).due(1, "known", 0, 6, 0, 3);
    }

    static void promise18SpottedByItsOwnSideDoesNotCount() {
        Boundaries.scoutAt(0, 0, 0, 3).does("addScout", 0, 1, 0, 3).due(0, "scout", 0, 5).due(0, "scout", 1, 5);
    }

    static void promise18WalledIn() {
        Run run = Boundaries.scoutAt(0, 5, 5, 8);
        for (int across = -1; across <= 1; across++) {
            for (int down = -1; down <= 1; down++) {
                run.does("setWall", 5 + across, 5 + down, across == 0 && down == 0 ? 0 : 1);
            }
        }
        run.due(9, "scout", 0, 4);
    }

    // ---- Promise 19: light

    static void promise19LightFrom0ToTheLastOf6() {
        Boundaries.full().bounds("light", new int[] {0, 3}, 0, 0, 5);
    }

    static void promise19TheOnlyLight() {
        new Run().does("addLight", 3, 3, 1, 1).bounds("light", new int[] {0, 3}, 0, 0, 0);
    }

    static void promise19NoLights() {
        new Run().refused(INVALID, "light", 0, 0).refused(INVALID, "light", -1, 0);
    }

    static void promise19WhatFrom0To3() {
        Boundaries.full().bounds("light", new int[] {5, 0}, 1, 0, 3);
    }

    static void promise19TheLeastAndTheGreatestValues() {
        Run run = new Run().does("addLight", 0, 0, 0, 0).does("addLight", 11, 9, 4, 50);
        int[] greatest = {11, 9, 4, 50};
        for (int what = 0; what <= 3; what++) {
            run.due(0, "light", 0, what).due(greatest[what], "light", 1, what);
        }
    }

    // ---- Promise 20: known

    static void promise20Side0Or1() {
        Boundaries.full().bounds("known", new int[] {0, 3, 3, 0}, 0, 0, 1);
    }

    static void promise20ColumnFrom0To11() {
        Boundaries.full().bounds("known", new int[] {0, 3, 3, 0}, 1, 0, 11);
        Boundaries.scoutAt(0, 11, 4, 1).due(10, "known", 0, 11, 3, 0).due(0, "known", 0, 0, 4, 0).due(0, "known", 0, 0, 5, 0);
    }

    static void promise20RowFrom0To9() {
        Boundaries.full().bounds("known", new int[] {0, 3, 3, 0}, 2, 0, 9);
        Boundaries.scoutAt(0, 4, 9, 1).due(10, "known", 0, 4, 9, 0).due(0, "known", 0, 4, 0, 0);
    }

    static void promise20WhatFrom0To4() {
        Boundaries.full().bounds("known", new int[] {0, 0, 0, 0}, 3, 0, 4).bounds("known", new int[] {0, 11, 9, 0}, 3, 0, 4);
    }

    static void promise20OutOfRangeComesBeforeNone() {
        new Run().refused(INVALID, "known", 2, 0, 0, 1).refused(INVALID, "known", 0, 12, 0, 1)
                .refused(INVALID, "known", 0, 0, 10, 1).refused(INVALID, "known", 0, 0, 0, 5);
    }

    private static void known(Run run, int memory, int height, int wall, int scout, int seen) {
        int[] due = {memory, height, wall, scout, seen};
        for (int what = 0; what <= 4; what++) {
            run.due(due[what], "known", 0, 6, 5, what);
        }
    }

    static void promise20AFoggedCell() {
        known(new Run().does("setHeight", 6, 5, 3), 0, NONE, NONE, NONE, 0);
    }

    static void promise20ASeenCell() {
        known(Boundaries.scoutAt(0, 5, 5, 1), 10, 0, 0, 0, 1);
        known(Boundaries.scoutAt(0, 5, 5, 1).does("setHeight", 6, 5, 9).does("setWall", 6, 5, 1), 10, 9, 1, 0, 1);
        known(Boundaries.scoutAt(0, 5, 5, 1).does("addScout", 1, 6, 5, 1), 10, 0, 0, 1, 1);
        known(Boundaries.scoutAt(0, 5, 5, 1).does("addScout", 0, 6, 5, 1), 10, 0, 0, 0, 1);
    }

    /** Side 0 remembers a scout of the other side on a hill, which is gone and levelled since. */
    private static Run remembered() {
        return new Run().does("setHeight", 6, 5, 2).does("addScout", 0, 5, 5, 1).does("addScout", 1, 6, 5, 1)
                .does("step", 0, -1, 0).does("removeScout", 1).does("setHeight", 6, 5, 0);
    }

    static void promise20AMemoryAtTheFogTime() {
        known(remembered(), 10, 2, 0, 1, 0);
    }

    static void promise20AMemoryOf1() {
        known(remembered().does("pass", 9), 1, 2, 0, 1, 0);
    }

    static void promise20AMemoryOf0() {
        known(remembered().does("pass", 10), 0, NONE, NONE, NONE, 0);
    }

    static void promise20SeenAgain() {
        known(remembered().does("pass", 10).does("step", 0, 1, 0), 10, 0, 0, 0, 1);
        known(remembered().does("pass", 9).does("step", 0, 1, 0), 10, 0, 0, 0, 1);
        known(remembered().does("setWall", 6, 5, 1).does("step", 0, 1, 0), 10, 0, 1, 0, 1);
    }

    static void promise20TheOtherSideKnowsNothing() {
        Boundaries.scoutAt(0, 5, 5, 1).due(0, "known", 1, 5, 5, 0).due(NONE, "known", 1, 5, 5, 3)
                .due(0, "known", 1, 5, 5, 4).due(0, "known", 0, 5, 5, 3);
    }

    static void promise20TheSidesLookBehindTheActionOfTheOther() {
        Boundaries.scoutAt(0, 5, 5, 1).does("addScout", 1, 7, 5, 1).does("step", 1, -1, 0).due(1, "known", 0, 6, 5, 3)
                .does("step", 1, 1, 0).due(0, "known", 0, 6, 5, 3);
    }
}
