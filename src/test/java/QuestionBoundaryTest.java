/** The boundary cases of the promises 21 to 24: views, ways, lookouts, and what one scout sees alone. */
public final class QuestionBoundaryTest {
    private static final int INVALID = FogMap.INVALID_ARGUMENT;
    private static final int NONE = FogMap.NONE;

    private QuestionBoundaryTest() {
    }

    public static void main(String[] args) {
        Boundaries.test(QuestionBoundaryTest.class, 21, 24);
    }

    // ---- Promise 21: view

    static void promise21FirstColumnFrom0To11() {
        Boundaries.full().bounds("view", new int[] {3, 3, 8, 8}, 0, 0, 11);
    }

    static void promise21FirstRowFrom0To9() {
        Boundaries.full().bounds("view", new int[] {3, 3, 8, 8}, 1, 0, 9);
    }

    static void promise21SecondColumnFrom0To11() {
        Boundaries.full().bounds("view", new int[] {3, 3, 8, 8}, 2, 0, 11);
    }

    static void promise21SecondRowFrom0To9() {
        Boundaries.full().bounds("view", new int[] {3, 3, 8, 8}, 3, 0, 9);
    }

    static void promise21Distance0() {
        new Run().due(1, "view", 0, 0, 0, 0).due(1, "view", 11, 9, 11, 9).does("setWall", 5, 5, 1)
                .does("setHeight", 5, 5, 9).due(1, "view", 5, 5, 5, 5);
    }

    static void promise21Distance1() {
        Run run = new Run().does("setWall", 5, 5, 1).does("setHeight", 4, 4, 9).does("setWall", 6, 6, 1);
        for (int across = -1; across <= 1; across++) {
            for (int down = -1; down <= 1; down++) {
                run.due(1, "view", 5, 5, 5 + across, 5 + down).due(1, "view", 5 + across, 5 + down, 5, 5);
            }
        }
    }

    static void promise21Distance2() {
        new Run().due(1, "view", 4, 5, 6, 5).does("setWall", 5, 5, 1).due(0, "view", 4, 5, 6, 5).due(0, "view", 6, 5, 4, 5);
    }

    static void promise21AWallAtTheEnds() {
        new Run().does("setWall", 0, 0, 1).does("setWall", 3, 0, 1).due(1, "view", 0, 0, 3, 0).due(1, "view", 3, 0, 0, 0)
                .due(0, "view", 0, 0, 4, 0);
    }

    /** The sight at the cell is 2: half of 1 and 3. */
    static void promise21TheTopIsTheSightAndAbove() {
        Run run = new Run().does("setHeight", 2, 0, 1).due(1, "view", 0, 0, 2, 0);
        run.does("setHeight", 1, 0, 1).due(1, "view", 0, 0, 2, 0).due(1, "view", 2, 0, 0, 0);
        run.does("setHeight", 1, 0, 2).due(0, "view", 0, 0, 2, 0).due(0, "view", 2, 0, 0, 0);
    }

    static void promise21EyeAndTopOnAFlatMap() {
        Run run = new Run();
        for (int height = 0; height <= 9; height++) {
            run.does("setHeight", 0, 0, height).does("setHeight", 1, 0, height).does("setHeight", 2, 0, height)
                    .due(1, "view", 0, 0, 2, 0);
            if (height < 9) {
                run.does("setHeight", 1, 0, height + 1).due(0, "view", 0, 0, 2, 0);
            }
        }
    }

    static void promise21TheSightIsRoundedDown() {
        Run run = new Run().does("setHeight", 3, 0, 1).does("setHeight", 1, 0, 1).due(0, "view", 0, 0, 3, 0)
                .due(0, "view", 3, 0, 0, 0);
        run.does("setHeight", 1, 0, 0).does("setHeight", 2, 0, 1).due(1, "view", 0, 0, 3, 0).due(1, "view", 3, 0, 0, 0);
    }

    static void promise21AWallBetweenTheHighestCells() {
        Run run = new Run().does("setHeight", 0, 0, 9).does("setHeight", 2, 0, 9).due(1, "view", 0, 0, 2, 0);
        run.does("setWall", 1, 0, 1).due(0, "view", 0, 0, 2, 0).does("setHeight", 1, 0, 9).due(0, "view", 0, 0, 2, 0);
        run.does("setWall", 1, 0, 0).due(1, "view", 0, 0, 2, 0);
    }

    static void promise21TheLongestViews() {
        new Run().due(1, "view", 0, 0, 11, 9).due(1, "view", 11, 9, 0, 0).due(1, "view", 0, 9, 11, 0)
                .due(1, "view", 11, 0, 0, 9).due(1, "view", 0, 0, 0, 9).due(1, "view", 0, 9, 11, 9);
    }

    /** Its inner cells have the columns 1 to 10, and these rows. */
    static void promise21EachInnerCellOfTheLongestView() {
        int[] rows = {1, 2, 2, 3, 4, 5, 6, 7, 7, 8};
        for (int i = 1; i <= 10; i++) {
            Run run = new Run();
            for (int row = 0; row <= 9; row++) {
                run.does("setWall", i, row, 1).due(row == rows[i - 1] ? 0 : 1, "view", 0, 0, 11, 9)
                        .due(row == rows[i - 1] ? 0 : 1, "view", 11, 9, 0, 0).does("setWall", i, row, 0);
            }
        }
    }

    private static void goesThrough(int column, int row, int column2, int row2, int... innerCells) {
        for (int i = 0; i < innerCells.length; i += 2) {
            Run run = new Run().does("setWall", innerCells[i], innerCells[i + 1], 1);
            run.due(0, "view", column, row, column2, row2).due(0, "view", column2, row2, column, row);
        }
        Run all = new Run();
        for (int other = 0; other < 120; other++) {
            if (!isAmong(other % 12, other / 12, innerCells)) {
                all.does("setWall", other % 12, other / 12, 1);
            }
        }
        all.due(1, "view", column, row, column2, row2).due(1, "view", column2, row2, column, row);
    }

    private static boolean isAmong(int column, int row, int[] cells) {
        for (int i = 0; i < cells.length; i += 2) {
            if (cells[i] == column && cells[i + 1] == row) {
                return true;
            }
        }
        return false;
    }

    static void promise21AHalfIsRoundedUp() {
        goesThrough(0, 0, 2, 1, 1, 1);
        goesThrough(0, 0, 1, 2, 1, 1);
        goesThrough(0, 0, 4, 2, 1, 1, 2, 1, 3, 2);
    }

    static void promise21AHalfOfANegativeNumberIsRoundedUp() {
        goesThrough(0, 1, 2, 0, 1, 1);
        goesThrough(1, 0, 0, 2, 1, 1);
        goesThrough(0, 2, 4, 0, 1, 2, 2, 1, 3, 1);
        goesThrough(0, 3, 4, 0, 1, 2, 2, 2, 3, 1);
    }

    static void promise21ThirdsOfNegativeNumbersAreRounded() {
        goesThrough(0, 2, 3, 0, 1, 1, 2, 1);
        goesThrough(0, 1, 3, 0, 1, 1, 2, 0);
        goesThrough(2, 9, 0, 6, 1, 8, 1, 7);
        goesThrough(11, 9, 8, 8, 10, 9, 9, 8);
    }

    static void promise21StraightAndAslant() {
        goesThrough(3, 3, 6, 3, 4, 3, 5, 3);
        goesThrough(3, 6, 3, 3, 3, 5, 3, 4);
        goesThrough(3, 3, 6, 6, 4, 4, 5, 5);
        goesThrough(3, 6, 6, 3, 4, 5, 5, 4);
    }

    static void promise21WithoutScoutsAndInFog() {
        new Run().does("setWall", 1, 0, 1).due(0, "view", 0, 0, 2, 0).due(0, "count", 8);
    }

    // ---- Promise 22: way

    static void promise22ScoutFrom0ToTheLastOf10() {
        Boundaries.full().bounds("way", new int[] {0, 3, 3}, 0, 0, 9);
    }

    static void promise22TheOnlyScout() {
        Boundaries.scoutAt(1, 3, 3, 1).bounds("way", new int[] {0, 3, 3}, 0, 0, 0);
    }

    static void promise22NoScouts() {
        new Run().refused(INVALID, "way", 0, 0, 0).refused(INVALID, "way", -1, 0, 0);
    }

    static void promise22ColumnFrom0To11() {
        Boundaries.full().bounds("way", new int[] {0, 3, 3}, 1, 0, 11);
    }

    static void promise22RowFrom0To9() {
        Boundaries.full().bounds("way", new int[] {0, 3, 3}, 2, 0, 9);
    }

    static void promise22OutOfRangeComesBeforeNone() {
        Boundaries.scoutAt(0, 3, 3, 1).due(NONE, "way", 0, 11, 9).refused(INVALID, "way", 0, 12, 9)
                .refused(INVALID, "way", 0, 11, 10).refused(INVALID, "way", 1, 11, 9);
    }

    static void promise22WhereItStands() {
        Boundaries.scoutAt(0, 0, 0, 1).does("addScout", 1, 11, 9, 1).due(0, "way", 0, 0, 0).due(0, "way", 1, 11, 9);
        Boundaries.scoutAt(0, 5, 5, 1).does("setFogTime", 1).does("setHeight", 5, 5, 9).due(0, "way", 0, 5, 5);
    }

    static void promise22ToANeighbor() {
        Run run = Boundaries.scoutAt(0, 5, 5, 1);
        for (int across = -1; across <= 1; across++) {
            for (int down = -1; down <= 1; down++) {
                run.due(across == 0 && down == 0 ? 0 : 1, "way", 0, 5 + across, 5 + down);
            }
        }
        run.due(NONE, "way", 0, 7, 5).due(NONE, "way", 0, 5, 3);
    }

    static void promise22OneStepAtATimeToAllSides() {
        Run run = Boundaries.scoutAt(0, 5, 5, 4);
        for (int across = -5; across <= 5; across++) {
            for (int down = -5; down <= 4; down++) {
                int distance = Math.max(Math.abs(across), Math.abs(down));
                run.due(distance > 4 ? NONE : distance, "way", 0, 5 + across, 5 + down);
            }
        }
    }

    static void promise22NoWayRoundTheBorder() {
        Boundaries.scoutAt(0, 11, 4, 1).does("addScout", 0, 0, 5, 1).due(NONE, "way", 0, 0, 5).due(NONE, "way", 1, 11, 4);
    }

    static void promise22AMemoryOf1And0() {
        Boundaries.scoutAt(0, 5, 5, 1).does("step", 0, 1, 0).does("pass", 9).due(2, "way", 0, 4, 5)
                .does("pass", 1).due(NONE, "way", 0, 4, 5).due(1, "way", 0, 5, 5);
    }

    static void promise22KnownHeightsThatDifferBy2And3() {
        Run run = Boundaries.scoutAt(0, 5, 5, 1).does("setHeight", 6, 5, 2).due(1, "way", 0, 6, 5)
                .does("setHeight", 6, 5, 3).due(NONE, "way", 0, 6, 5);
        run.does("setHeight", 6, 6, 1).due(2, "way", 0, 6, 5);
        run.does("setHeight", 5, 5, 5).due(1, "way", 0, 6, 5).does("setHeight", 5, 5, 6).due(NONE, "way", 0, 6, 6);
    }

    static void promise22AKnownWallAtTheEnd() {
        Boundaries.scoutAt(0, 5, 5, 1).does("setWall", 6, 5, 1).due(NONE, "way", 0, 6, 5).due(1, "way", 0, 6, 6);
    }

    static void promise22AScoutOfTheOtherSideAtTheEnd() {
        Boundaries.scoutAt(0, 5, 5, 1).does("addScout", 1, 6, 5, 1).due(NONE, "way", 0, 6, 5).due(NONE, "way", 1, 5, 5)
                .does("removeScout", 1).due(1, "way", 0, 6, 5);
    }

    static void promise22AScoutOfItsOwnSideAtTheEnd() {
        Boundaries.scoutAt(0, 5, 5, 1).does("addScout", 0, 6, 5, 1).due(1, "way", 0, 6, 5).due(1, "way", 1, 5, 5)
                .due(2, "way", 0, 7, 5);
    }

    static void promise22AScoutThatIsKnownButGone() {
        Run run = Boundaries.scoutAt(0, 5, 5, 1).does("addScout", 1, 6, 5, 1).does("step", 0, -1, 0)
                .does("removeScout", 1).due(NONE, "way", 0, 6, 5);
        run.does("step", 0, 1, 0).due(1, "way", 0, 6, 5);
    }

    static void promise22AWallThatIsNotKnown() {
        Boundaries.scoutAt(0, 5, 5, 1).does("step", 0, -1, 0).does("setWall", 6, 5, 1).does("addScout", 1, 6, 4, 1)
                .due(2, "way", 0, 6, 5).due(2, "way", 0, 6, 4);
    }

    static void promise22WalledInAndFoggedIn() {
        Run run = Boundaries.scoutAt(0, 0, 0, 1).does("addScout", 0, 4, 4, 1).due(NONE, "way", 0, 4, 4)
                .due(NONE, "way", 0, 3, 3).due(1, "way", 0, 1, 1);
        run.does("setWall", 1, 0, 1).does("setWall", 0, 1, 1).does("setWall", 1, 1, 1).due(NONE, "way", 0, 1, 1)
                .due(0, "way", 0, 0, 0);
    }

    /** All is lit, and a scout sees a path of height 3 that winds through the ground of height 0. */
    static void promise22ALongWay() {
        Run run = new Run().does("addLight", 4, 4, 4, 50).does("addLight", 7, 4, 4, 50)
                .does("addLight", 4, 5, 4, 50).does("addLight", 7, 5, 4, 50);
        String path = "333333333333;";
        String right = "000000000003;";
        String left = "300000000000;";
        run.writes(path + right + path + left + path + right + path + left + path).does("load")
                .does("addScout", 0, 0, 0, 8);
        run.due(11, "way", 0, 11, 0).due(11, "way", 0, 11, 1).due(12, "way", 0, 10, 2).due(22, "way", 0, 0, 3)
                .due(33, "way", 0, 11, 5).due(44, "way", 0, 0, 7).due(55, "way", 0, 11, 8).due(NONE, "way", 0, 11, 9);
    }

    static void promise22AllTheMap() {
        Run run = new Run().does("addScout", 0, 0, 0, 8).does("addScout", 0, 11, 9, 8).does("addScout", 0, 11, 0, 8)
                .does("addScout", 0, 0, 9, 8).due(120, "count", 8);
        run.due(11, "way", 0, 11, 9).due(11, "way", 1, 0, 0).due(9, "way", 0, 0, 9).due(11, "way", 2, 0, 9);
        run.does("setWall", 11, 8, 1).due(11, "way", 0, 11, 9).does("setWall", 10, 8, 1).does("setWall", 10, 9, 1)
                .due(NONE, "way", 0, 11, 9);
    }

    // ---- Promise 23: lookout

    static void promise23ScoutFrom0ToTheLastOf10() {
        Boundaries.full().bounds("lookout", new int[] {0, 3}, 0, 0, 9);
    }

    static void promise23TheOnlyScout() {
        Boundaries.scoutAt(1, 3, 3, 1).bounds("lookout", new int[] {0, 3}, 0, 0, 0);
    }

    static void promise23NoScouts() {
        new Run().refused(INVALID, "lookout", 0, 0).refused(INVALID, "lookout", -1, 0);
    }

    static void promise23DistanceFrom0To11() {
        Boundaries.full().bounds("lookout", new int[] {9, 3}, 1, 0, 11);
    }

    static void promise23Distance0() {
        Boundaries.scoutAt(0, 0, 0, 1).due(0, "lookout", 0, 0);
        Boundaries.scoutAt(1, 11, 9, 8).due(1109, "lookout", 0, 0);
        Boundaries.scoutAt(1, 5, 9, 8).does("setHeight", 5, 8, 9).due(509, "lookout", 0, 0);
    }

    static void promise23AtTheDistanceAndBeyond() {
        Boundaries.scoutAt(0, 0, 0, 8).due(101, "lookout", 0, 1).due(201, "lookout", 0, 2).due(301, "lookout", 0, 3)
                .due(301, "lookout", 0, 4).due(301, "lookout", 0, 11);
        Boundaries.scoutAt(0, 11, 9, 8).due(1008, "lookout", 0, 1).due(402, "lookout", 0, 7).due(301, "lookout", 0, 8).due(301, "lookout", 0, 11);
    }

    static void promise23OfSeveralTheSmallestColumnThenRow() {
        Boundaries.scoutAt(0, 5, 5, 1).due(505, "lookout", 0, 0).due(404, "lookout", 0, 1).due(101, "lookout", 0, 11);
        Boundaries.scoutAt(0, 11, 9, 1).due(1008, "lookout", 0, 1).due(806, "lookout", 0, 3).due(101, "lookout", 0, 11);
    }

    /** The walls leave three cells at the border, each of which sees six. */
    static void promise23TheFirstAndTheLastColumnAndRow() {
        lookoutAtBorder(5, 0, 0, 1, 400);
        lookoutAtBorder(5, 9, 0, -1, 409);
        lookoutAtBorder(0, 5, 1, 0, 4);
        lookoutAtBorder(11, 5, -1, 0, 1104);
    }

    private static void lookoutAtBorder(int column, int row, int across, int down, int due) {
        Run run = Boundaries.scoutAt(0, column, row, 1);
        for (int i = -1; i <= 1; i++) {
            run.does("setWall", column + (across == 0 ? i : across), row + (down == 0 ? i : down), 1);
        }
        run.due(due, "lookout", 0, 1);
    }

    static void promise23WalledCells() {
        Boundaries.scoutAt(0, 5, 5, 1).does("setWall", 4, 4, 1).due(405, "lookout", 0, 1)
                .does("setWall", 4, 5, 1).due(406, "lookout", 0, 1).does("setWall", 4, 6, 1).due(504, "lookout", 0, 1)
                .does("setWall", 5, 4, 1).due(505, "lookout", 0, 1);
    }

    static void promise23CellsOfOtherScouts() {
        Boundaries.scoutAt(0, 5, 5, 1).does("addScout", 0, 4, 4, 1).due(405, "lookout", 0, 1)
                .does("addScout", 1, 4, 5, 1).due(406, "lookout", 0, 1).does("addScout", 1, 4, 6, 1)
                .does("addScout", 0, 5, 4, 1).due(505, "lookout", 0, 1);
    }

    static void promise23AllNeighborsTaken() {
        Run run = Boundaries.scoutAt(0, 0, 0, 1).does("addScout", 0, 0, 1, 1).does("addScout", 1, 1, 0, 1);
        run.due(101, "lookout", 0, 1).does("addScout", 1, 1, 1, 1).due(0, "lookout", 0, 1);
    }

    static void promise23NoWayMustLeadThere() {
        Boundaries.scoutAt(0, 0, 0, 1).does("setWall", 0, 1, 1).does("setWall", 1, 0, 1).does("setWall", 1, 1, 1)
                .due(102, "lookout", 0, 2).due(0, "lookout", 0, 1);
    }

    static void promise23ByALightOfOil1And0() {
        Boundaries.scoutAt(0, 5, 5, 1).does("addLight", 7, 2, 0, 1).due(504, "lookout", 0, 1)
                .does("pass", 1).due(404, "lookout", 0, 1);
    }

    /** Behind the cell in column 3, two cells are hidden from the cell 404, and one from 405. */
    static void promise23WallsAndHeightsHide() {
        Boundaries.scoutAt(0, 5, 5, 2).due(404, "lookout", 0, 1).does("setWall", 3, 4, 1).due(406, "lookout", 0, 1);
        Boundaries.scoutAt(0, 5, 5, 2).does("setHeight", 3, 4, 1).due(406, "lookout", 0, 1)
                .does("setHeight", 4, 4, 1).due(404, "lookout", 0, 1);
    }

    /** A step may not lead up there, but the scout may stand there. */
    static void promise23AHighCell() {
        Boundaries.scoutAt(0, 5, 5, 2).does("setHeight", 3, 4, 1).does("setHeight", 4, 4, 9).refused(-12, "step", 0, -1, -1)
                .due(404, "lookout", 0, 1);
    }

    static void promise23FogDoesNotMatter() {
        Boundaries.scoutAt(0, 0, 0, 1).due(0, "known", 0, 8, 8, 0).does("setWall", 1, 1, 1).does("setWall", 1, 2, 1)
                .due(0, "known", 0, 1, 2, 0).due(103, "lookout", 0, 11);
    }

    static void promise23ItsOwnCellIsAmongThem() {
        Boundaries.scoutAt(0, 1, 1, 1).due(101, "lookout", 0, 1).due(101, "lookout", 0, 11);
    }

    // ---- Promise 24: alone

    static void promise24ScoutFrom0ToTheLastOf10() {
        Boundaries.full().bounds("alone", new int[] {0}, 0, 0, 9);
    }

    static void promise24TheOnlyScout() {
        Boundaries.scoutAt(1, 3, 3, 1).bounds("alone", new int[] {0}, 0, 0, 0).due(9, "alone", 0);
    }

    static void promise24NoScouts() {
        new Run().refused(INVALID, "alone", 0).refused(INVALID, "alone", -1).refused(INVALID, "alone", 1);
    }

    static void promise24NoneOfItsCells() {
        Boundaries.scoutAt(0, 5, 5, 1).does("addScout", 0, 6, 5, 2).due(0, "alone", 0).due(16, "alone", 1);
    }

    static void promise24AllOfItsCells() {
        Boundaries.scoutAt(0, 4, 5, 1).does("addScout", 0, 7, 5, 1).due(9, "alone", 0).due(9, "alone", 1)
                .does("step", 0, 1, 0).due(6, "alone", 0).due(6, "alone", 1);
    }

    static void promise24TheOtherSideDoesNotMatter() {
        Boundaries.scoutAt(0, 5, 5, 1).does("addScout", 1, 5, 6, 8).due(9, "alone", 0).due(120, "scout", 1, 4)
                .due(120, "alone", 1);
    }

    static void promise24ThreeScouts() {
        Boundaries.scoutAt(0, 5, 5, 1).does("addScout", 0, 6, 5, 1).does("addScout", 0, 7, 5, 1)
                .due(3, "alone", 0).due(0, "alone", 1).due(3, "alone", 2)
                .does("removeScout", 0).due(3, "alone", 0).due(3, "alone", 1);
    }

    static void promise24RememberedCellsDoNotMatter() {
        Boundaries.scoutAt(0, 5, 5, 1).does("addScout", 0, 6, 5, 1).does("removeScout", 1).due(9, "alone", 0);
    }

    static void promise24AllOf10Scouts() {
        Run run = new Run();
        for (int i = 0; i < 10; i++) {
            run.does("addScout", 1, i, 0, 1);
        }
        run.due(0, "alone", 4).due(2, "alone", 9).due(0, "alone", 0);
    }
}
