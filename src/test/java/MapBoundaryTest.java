/** The boundary cases of the promises 1 to 6: the new object, heights, walls, and the text. */
public final class MapBoundaryTest {
    private static final int INVALID = FogMap.INVALID_ARGUMENT;
    private static final int ILLEGAL = FogMap.ILLEGAL_STATE;
    private static final int FULL = FogMap.CAPACITY_EXCEEDED;
    private static final int NONE = FogMap.NONE;

    private MapBoundaryTest() {
    }

    public static void main(String[] args) {
        Boundaries.test(MapBoundaryTest.class, 1, 6);
    }

    // ---- Promise 1: a new object

    static void promise1EachCellIsFlatOpenDarkAndEmpty() {
        for (int column = 0; column < 12; column++) {
            Run run = new Run();
            for (int row = 0; row < 10; row++) {
                run.due(0, "cell", column, row, 0).due(0, "cell", column, row, 1);
                run.due(0, "cell", column, row, 2).due(NONE, "cell", column, row, 3);
            }
        }
    }

    static void promise1EachCellIsFoggedForBothSides() {
        for (int column = 0; column < 12; column++) {
            Run run = new Run();
            for (int row = 0; row < 10; row++) {
                for (int side = 0; side < 2; side++) {
                    run.due(0, "known", side, column, row, 0).due(NONE, "known", side, column, row, 2);
                }
            }
        }
    }

    static void promise1NothingIsSeenOrLit() {
        Run run = new Run();
        for (int what : new int[] {3, 6, 7, 8, 9}) {
            run.due(0, "count", what);
        }
    }

    static void promise1NoScouts() {
        new Run().due(0, "count", 0).refused(INVALID, "scout", 0, 0).refused(INVALID, "removeScout", 0)
                .refused(INVALID, "step", 0, 1, 0).refused(INVALID, "way", 0, 0, 0)
                .refused(INVALID, "lookout", 0, 0).refused(INVALID, "alone", 0);
    }

    static void promise1NoLights() {
        new Run().due(0, "count", 1).due(0, "count", 2).refused(INVALID, "light", 0, 0)
                .refused(INVALID, "removeLight", 0).refused(INVALID, "setOil", 0, 0);
    }

    static void promise1EmptyText() {
        new Run().due(0, "count", 11).due(0, "clearText").due(0, "load");
    }

    static void promise1EmptyHistory() {
        new Run().due(0, "count", 10).refused(ILLEGAL, "undo");
    }

    static void promise1FogTime10AndNoTurns() {
        new Run().due(10, "count", 4).due(0, "count", 5);
    }

    static void promise1ObjectsShareNothing() {
        Run old = Boundaries.full();
        new Run().due(0, "count", 0).due(0, "count", 1).due(0, "count", 10).due(0, "count", 11)
                .due(0, "cell", 4, 4, 0).due(0, "cell", 5, 5, 1);
        old.due(10, "count", 0).due(6, "count", 1).due(5, "count", 10).due(120, "count", 11).due(3, "cell", 4, 4, 0);
    }

    // ---- Promise 2: setHeight

    static void promise2ColumnFrom0To11() {
        Boundaries.full().bounds("setHeight", new int[] {5, 5, 5}, 0, 0, 11);
        new Run().does("setHeight", 0, 3, 1).does("setHeight", 11, 3, 2)
                .due(1, "cell", 0, 3, 0).due(2, "cell", 11, 3, 0).due(0, "cell", 0, 4, 0).due(0, "cell", 11, 2, 0);
    }

    static void promise2RowFrom0To9() {
        Boundaries.full().bounds("setHeight", new int[] {5, 5, 5}, 1, 0, 9);
        new Run().does("setHeight", 3, 0, 1).does("setHeight", 3, 9, 2)
                .due(1, "cell", 3, 0, 0).due(2, "cell", 3, 9, 0).due(0, "cell", 0, 3, 0).due(0, "cell", 9, 3, 0);
    }

    static void promise2HeightFrom0To9() {
        Boundaries.full().bounds("setHeight", new int[] {5, 5, 5}, 2, 0, 9);
        new Run().due(0, "setHeight", 3, 3, 9).due(9, "cell", 3, 3, 0)
                .due(9, "setHeight", 3, 3, 0).due(0, "cell", 3, 3, 0);
    }

    static void promise2TheSameHeightIsAnAction() {
        new Run().due(0, "setHeight", 0, 0, 0).due(1, "count", 10).due(0, "undo");
    }

    static void promise2HeightOfAWallAndOfAScoutsCell() {
        new Run().does("setWall", 1, 1, 1).due(0, "setHeight", 1, 1, 9).due(1, "cell", 1, 1, 1)
                .does("addScout", 0, 5, 5, 1).due(0, "setHeight", 5, 5, 9).due(9, "known", 0, 5, 5, 1)
                .due(9, "setHeight", 5, 5, 0).due(0, "cell", 5, 5, 3);
    }

    // ---- Promise 3: setWall

    static void promise3ColumnFrom0To11() {
        Boundaries.full().bounds("setWall", new int[] {5, 6, 1}, 0, 0, 11);
        new Run().does("setWall", 0, 3, 1).does("setWall", 11, 3, 1)
                .due(1, "cell", 0, 3, 1).due(1, "cell", 11, 3, 1).due(0, "cell", 0, 4, 1).due(0, "cell", 11, 2, 1);
    }

    static void promise3RowFrom0To9() {
        Boundaries.full().bounds("setWall", new int[] {11, 6, 1}, 1, 0, 9);
        new Run().does("setWall", 3, 0, 1).does("setWall", 3, 9, 1)
                .due(1, "cell", 3, 0, 1).due(1, "cell", 3, 9, 1).due(0, "cell", 0, 3, 1).due(0, "cell", 9, 3, 1);
    }

    static void promise3Wall1Or0() {
        Boundaries.full().bounds("setWall", new int[] {5, 6, 1}, 2, 0, 1);
    }

    static void promise3AWallAgain() {
        new Run().due(0, "setWall", 11, 9, 1).due(1, "setWall", 11, 9, 1).due(1, "cell", 11, 9, 1).due(2, "count", 10);
    }

    static void promise3OpenAgain() {
        new Run().due(0, "setWall", 0, 0, 0).due(0, "cell", 0, 0, 1).due(1, "count", 10)
                .does("setWall", 0, 0, 1).due(1, "setWall", 0, 0, 0).due(0, "setWall", 0, 0, 0);
    }

    static void promise3WallOnAScout() {
        Boundaries.scoutAt(0, 0, 0, 1).refused(ILLEGAL, "setWall", 0, 0, 1);
        Boundaries.scoutAt(1, 11, 9, 1).refused(ILLEGAL, "setWall", 11, 9, 1);
    }

    static void promise3WallOnTheFirstAndTheLastOf10Scouts() {
        Boundaries.full().refused(ILLEGAL, "setWall", 0, 0, 1).refused(ILLEGAL, "setWall", 9, 0, 1);
    }

    static void promise3OpeningAScoutsCell() {
        Boundaries.scoutAt(1, 3, 3, 1).due(0, "setWall", 3, 3, 0).due(2, "count", 10).due(0, "cell", 3, 3, 3);
    }

    static void promise3OutOfRangeComesBeforeTheScout() {
        Boundaries.scoutAt(0, 3, 3, 1).refused(INVALID, "setWall", 3, 3, 2).refused(INVALID, "setWall", 3, 3, -1);
    }

    static void promise3WallWhereAScoutStoodBefore() {
        Boundaries.scoutAt(0, 3, 3, 1).does("step", 0, 1, 0).due(0, "setWall", 3, 3, 1)
                .does("removeScout", 0).due(0, "setWall", 4, 3, 1);
    }

    static void promise3WallOnALight() {
        new Run().does("addLight", 3, 3, 1, 1).due(0, "setWall", 3, 3, 1).due(9, "count", 3).due(1, "cell", 3, 3, 2);
    }

    // ---- Promise 4: append

    static void promise4CharacterFrom1To255() {
        new Run().bounds("append", new int[] {48}, 0, 1, 255).does("append", 48).bounds("append", new int[] {48}, 0, 1, 255);
    }

    static void promise4First() {
        new Run().due(1, "append", 255).due(2, "append", 1).due(2, "count", 11);
    }

    static void promise4The120thAndThe121stCharacter() {
        new Run().writes("1;".repeat(59) + " ").due(120, "append", ' ').refused(FULL, "append", ' ')
                .refused(FULL, "append", 1).refused(FULL, "append", 255).due(120, "count", 11);
    }

    static void promise4OutOfRangeComesBeforeAFullText() {
        Boundaries.full().refused(INVALID, "append", 0).refused(INVALID, "append", 256)
                .refused(INVALID, "append", Integer.MIN_VALUE).refused(INVALID, "append", Integer.MAX_VALUE);
    }

    static void promise4IsNoAction() {
        new Run().does("append", 48).due(0, "count", 10).refused(ILLEGAL, "undo");
    }

    static void promise4RoomAgainBehindClearTextAndLoad() {
        Boundaries.full().does("clearText").due(1, "append", 48);
        Boundaries.full().does("load").due(1, "append", 48);
    }

    // ---- Promise 5: clearText

    static void promise5EmptyText() {
        new Run().due(0, "clearText").due(0, "count", 11);
    }

    static void promise5OneCharacter() {
        new Run().writes("1").due(1, "clearText").due(0, "clearText");
    }

    static void promise5FullText() {
        Boundaries.full().due(120, "clearText").due(0, "count", 11).due(0, "clearText").due(0, "load")
                .due(0, "cell", 9, 9, 0);
    }

    static void promise5IsNoAction() {
        new Run().writes("1;").does("clearText").due(0, "count", 10).refused(ILLEGAL, "undo");
    }

    static void promise5NothingOfAnErrorIsLeft() {
        new Run().writes("1;x").due(-1002, "load").due(3, "clearText").writes("2;").due(1, "load").due(2, "cell", 0, 0, 0);
    }

    // ---- Promise 6: load

    private static Run reads(String text) {
        return new Run().writes(text);
    }

    /** In rows of scouts: number 0 in column 2 of row 3, number 1 in the last column of row 0. */
    private static Run readsByScouts(String text) {
        return new Run().does("addScout", 0, 2, 3, 1).does("addScout", 1, 11, 0, 1).writes(text);
    }

    private static void errorAt(int position, String text) {
        readsByScouts(text).refused(-1000 - position, "load").due(text.length(), "count", 11).due(2, "count", 10);
    }

    static void promise6EmptyText() {
        reads("").due(0, "load").due(1, "count", 10).due(0, "undo");
    }

    static void promise6SpacesAlone() {
        reads(" ").due(0, "load").due(0, "count", 11).due(1, "count", 10);
        reads(" ".repeat(120)).due(0, "load").due(0, "count", 11).due(1, "count", 10);
    }

    static void promise6FullText() {
        reads("12345678901;".repeat(10)).due(10, "load").due(1, "cell", 10, 9, 0).due(0, "cell", 9, 9, 0)
                .due(0, "cell", 11, 9, 0).due(0, "count", 11);
    }

    static void promise6FullTextWithAnErrorAtItsLastCharacter() {
        errorAt(119, "12345678901;".repeat(9) + "12345678901x");
    }

    static void promise6FullTextWithoutItsLastEnd() {
        errorAt(120, "12345678901;".repeat(9) + "123456789012");
        errorAt(120, " ".repeat(119) + "1");
    }

    static void promise6RowsWithoutCells() {
        reads(";").due(1, "load").due(0, "count", 11);
        reads(";;;;;;;;;;").due(10, "load").due(0, "cell", 0, 0, 0);
        reads("; ;1;").due(3, "load").due(1, "cell", 0, 2, 0).due(0, "cell", 0, 0, 0);
    }

    static void promise6RowOf12Cells() {
        reads("00000000000#;").due(1, "load").due(1, "cell", 11, 0, 1).due(0, "cell", 0, 1, 1);
        reads("0 0 0 0 0 0 0 0 0 0 0 9 ;").due(1, "load").due(9, "cell", 11, 0, 0);
    }

    static void promise6The13thCellOfARow() {
        errorAt(12, "0000000000000;");
        errorAt(12, "000000000000");
        errorAt(12, "000000000000#;");
        errorAt(14, "000000000000  1;");
        errorAt(14, ";000000000000 1");
        errorAt(27, ";".repeat(8) + "1;" + "2".repeat(5) + "3".repeat(7) + "     4;");
    }

    static void promise6The10thRow() {
        reads(";;;;;;;;;#9;").due(10, "load").due(1, "cell", 0, 9, 1).due(9, "cell", 1, 9, 0);
        reads(";;;;;;;;;;   ").due(10, "load");
        errorAt(11, ";;;;;;;;;12x;");
        errorAt(10, ";;;;;;;;;1");
    }

    static void promise6TheFirstCharacterOfAn11thRow() {
        errorAt(10, ";;;;;;;;;;1;");
        errorAt(10, ";;;;;;;;;;#");
        errorAt(10, ";;;;;;;;;;x;");
        errorAt(13, "1;".repeat(3) + ";".repeat(7) + "0");
    }

    static void promise6AnEmpty11thRow() {
        errorAt(10, ";;;;;;;;;;;");
        errorAt(20, "1;".repeat(10) + ";;");
    }

    static void promise6SpacesBeforeAn11thRow() {
        errorAt(12, ";;;;;;;;;;  ;");
        errorAt(11, ";;;;;;;;;; 1");
    }

    static void promise6TheTextEndsInARow() {
        errorAt(1, "1");
        errorAt(1, "#");
        errorAt(3, "1;2");
        errorAt(6, "1;2   ");
        errorAt(12, "012345678901");
    }

    static void promise6ErrorAtTheFirstCharacter() {
        errorAt(0, "x");
        errorAt(0, "-1;");
        errorAt(0, ":");
    }

    static void promise6EachCharacterAlone() {
        for (int code = 1; code <= 255; code++) {
            Run run = new Run().does("append", code);
            boolean isCell = code >= '0' && code <= '9' || code == '#';
            int want = code == ' ' ? 0 : code == ';' ? 1 : isCell ? -1001 : -1000;
            run.due(want, "load").due(want < 0 ? 1 : 0, "count", 11);
        }
    }

    static void promise6TheNextCharactersOutside() {
        errorAt(1, "1/;");
        errorAt(1, "1:;");
        errorAt(1, "1\";");
        errorAt(1, "1$;");
        errorAt(1, "1<;");
        errorAt(1, "1\u001f;");
        errorAt(1, "1!;");
        errorAt(1, "1\u0001;");
        errorAt(1, "1\u00a0;");
        errorAt(1, "1\u00ff;");
        errorAt(1, "1\t;");
    }

    static void promise6DigitsFrom0To9() {
        reads("0123456789;").due(1, "load").due(0, "cell", 0, 0, 0).due(9, "cell", 9, 0, 0)
                .writes("9876543210;").due(1, "load").due(9, "cell", 0, 0, 0).due(0, "cell", 9, 0, 0);
    }

    static void promise6WallWhereAScoutStands() {
        errorAt(5, ";;;00#0;");
        errorAt(11, "00000000000#;");
        errorAt(10, "; ; ; 0 0 # ;");
    }

    static void promise6WallBesideAScout() {
        readsByScouts(";;;0#0#;").due(4, "load").due(1, "cell", 1, 3, 1).due(1, "cell", 3, 3, 1).due(0, "cell", 2, 3, 1);
    }

    static void promise6WallWhereAScoutStoodBefore() {
        readsByScouts(";;;00#;").does("step", 0, 1, 0).due(4, "load").due(1, "cell", 2, 3, 1);
        readsByScouts(";;;00#;").does("removeScout", 0).due(4, "load").due(1, "cell", 2, 3, 1);
    }

    static void promise6DigitWhereAScoutStands() {
        readsByScouts(";;;009;").due(4, "load").due(9, "cell", 2, 3, 0).due(0, "cell", 2, 3, 3).due(9, "known", 0, 2, 3, 1);
    }

    static void promise6TheFirstErrorIsTold() {
        errorAt(1, "1x2y;");
        errorAt(6, ";;;00 #x;");
        errorAt(4, ";;;0x#;");
    }

    static void promise6NothingOfATextWithAnErrorIsRead() {
        reads("1;#;2").due(-1005, "load").due(0, "cell", 0, 0, 0).due(0, "cell", 0, 1, 1).due(0, "count", 10)
                .writes(";").due(3, "load").due(1, "cell", 0, 0, 0).due(1, "cell", 0, 1, 1).due(2, "cell", 0, 2, 0);
    }

    static void promise6TheHeightStaysUnderAWall() {
        new Run().does("setHeight", 0, 0, 9).writes("#;").due(1, "load").due(9, "cell", 0, 0, 0).due(1, "cell", 0, 0, 1)
                .writes("#;").due(1, "load").due(1, "cell", 0, 0, 1)
                .writes("3;").due(1, "load").due(3, "cell", 0, 0, 0).due(0, "cell", 0, 0, 1);
    }

    static void promise6CellsThatAreNotToldStay() {
        new Run().does("setHeight", 1, 0, 7).does("setWall", 1, 0, 1).does("setHeight", 0, 2, 8).writes("1;2;")
                .due(2, "load").due(7, "cell", 1, 0, 0).due(1, "cell", 1, 0, 1).due(8, "cell", 0, 2, 0)
                .writes(";;").due(2, "load").due(1, "cell", 0, 0, 0).due(2, "cell", 0, 1, 0);
    }

    static void promise6IsOneAction() {
        reads("1;2;3;").due(3, "load").due(1, "count", 10).due(0, "undo").due(0, "cell", 0, 2, 0).due(0, "count", 11)
                .refused(ILLEGAL, "undo");
    }
}
