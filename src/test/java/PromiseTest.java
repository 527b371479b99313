/** Each promise with answers that are worked out by hand from the document. */
public final class PromiseTest {
    private static final int INVALID = -11;
    private static final int ILLEGAL = -12;
    private static final int FULL = -13;
    private static final int NONE = -19;

    private PromiseTest() {
    }

    public static void main(String[] args) {
        constants();
        newObject();
        setHeight();
        setWall();
        append();
        clearText();
        loadCells();
        loadErrors();
        loadIsOneAction();
        addScout();
        stepCounts();
        stepRules();
        removeScout();
        addLight();
        setOil();
        removeLight();
        setFogTime();
        passBurnsAndFades();
        passIsOneAction();
        undo();
        undoRestoresAll();
        undoRestoresLists();
        actionsAreRecorded();
        sidesLookBehindActions();
        count();
        cell();
        scout();
        spotted();
        light();
        known();
        knownIsOld();
        view();
        viewHeights();
        viewLines();
        twiceTheRange();
        way();
        wayByKnowledge();
        lookout();
        alone();
        Checks.close("PromiseTest");
    }

    private static void due(String what, int want, int got) {
        Checks.equal(what, want, got);
    }

    private static void write(FogMap map, String text) {
        for (int i = 0; i < text.length(); i++) {
            map.append(text.charAt(i));
        }
    }

    private static int loaded(FogMap map, String text) {
        write(map, text);
        return map.load();
    }

    private static void constants() {
        due("INVALID_ARGUMENT", INVALID, FogMap.INVALID_ARGUMENT);
        due("ILLEGAL_STATE", ILLEGAL, FogMap.ILLEGAL_STATE);
        due("CAPACITY_EXCEEDED", FULL, FogMap.CAPACITY_EXCEEDED);
        due("NONE", NONE, FogMap.NONE);
    }

    // Promise 1
    private static void newObject() {
        for (int column = 0; column < 12; column++) {
            FogMap map = new FogMap();
            for (int row = 0; row < 10; row++) {
                String at = "new map at " + column + ", " + row;
                due(at + " height", 0, map.cell(column, row, 0));
                due(at + " wall", 0, map.cell(column, row, 1));
                due(at + " lit", 0, map.cell(column, row, 2));
                due(at + " scout", NONE, map.cell(column, row, 3));
                for (int side = 0; side < 2; side++) {
                    due(at + " memory", 0, map.known(side, column, row, 0));
                    due(at + " known", NONE, map.known(side, column, row, 1));
                    due(at + " seen", 0, map.known(side, column, row, 4));
                }
            }
        }
        FogMap map = new FogMap();
        for (int what = 0; what <= 11; what++) {
            due("new map count " + what, what == 4 ? 10 : 0, map.count(what));
        }
        due("new map undo", ILLEGAL, map.undo());
    }

    // Promise 2
    private static void setHeight() {
        FogMap map = new FogMap();
        due("first height", 0, map.setHeight(0, 0, 9));
        due("height before", 9, map.setHeight(0, 0, 4));
        due("last cell", 0, map.setHeight(11, 9, 9));
        due("height to 0", 9, map.setHeight(11, 9, 0));
        due("height is set", 4, map.cell(0, 0, 0));
        due("other cell", 0, map.cell(1, 0, 0));
        due("four actions", 4, map.count(10));
        due("the same height is an action too", 0, map.setHeight(11, 9, 0));
        due("five actions", 5, map.count(10));
        map.addScout(0, 5, 5, 2);
        map.setHeight(6, 5, 5);
        due("the sides look behind it", 5, map.known(0, 6, 5, 1));
        due("a height hides a cell", 0, map.known(0, 7, 5, 4));
        due("which stays remembered", 10, map.known(0, 7, 5, 0));
        due("height of a scout's cell", 0, map.setHeight(5, 5, 9));
        due("a height uncovers a cell", 1, map.known(0, 7, 5, 4));
    }

    // Promise 3
    private static void setWall() {
        FogMap map = new FogMap();
        due("wall", 0, map.setWall(11, 9, 1));
        due("wall again", 1, map.setWall(11, 9, 1));
        due("walled", 1, map.cell(11, 9, 1));
        due("open", 1, map.setWall(11, 9, 0));
        due("open again", 0, map.setWall(11, 9, 0));
        due("opened", 0, map.cell(11, 9, 1));
        due("four actions", 4, map.count(10));
        map.addScout(1, 0, 0, 2);
        due("wall on a scout", ILLEGAL, map.setWall(0, 0, 1));
        due("opening a scout's cell", 0, map.setWall(0, 0, 0));
        due("height stays", 0, map.setHeight(1, 0, 7));
        map.setWall(1, 0, 1);
        due("height stays under a wall", 7, map.cell(1, 0, 0));
        due("the sides look behind it", 1, map.known(1, 1, 0, 2));
        due("a wall hides a cell", 0, map.known(1, 2, 0, 4));
    }

    // Promise 4
    private static void append() {
        FogMap map = new FogMap();
        due("code 0", INVALID, map.append(0));
        due("code 256", INVALID, map.append(256));
        due("code 1", 1, map.append(1));
        due("code 255", 2, map.append(255));
        for (int length = 3; length <= 120; length++) {
            due("append", length, map.append(' '));
        }
        due("append to a full text", FULL, map.append(' '));
        due("wrong code to a full text", INVALID, map.append(256));
        due("length", 120, map.count(11));
        due("append is no action", 0, map.count(10));
    }

    // Promise 5
    private static void clearText() {
        FogMap map = new FogMap();
        due("clear an empty text", 0, map.clearText());
        write(map, "12 ");
        due("clear", 3, map.clearText());
        due("cleared", 0, map.count(11));
        due("no action", 0, map.count(10));
        for (int i = 0; i < 120; i++) {
            map.append('1');
        }
        due("clear a full text", 120, map.clearText());
        due("append then", 1, map.append(';'));
        due("nothing of the old text is left", 1, map.load());
    }

    // Promise 6
    private static void loadCells() {
        FogMap map = new FogMap();
        map.setHeight(2, 0, 6);
        map.setWall(1, 0, 1);
        map.setHeight(3, 0, 8);
        due("rows", 3, loaded(map, " 1 0#;; 9;"));
        due("digit", 1, map.cell(0, 0, 0));
        due("digit opens a wall", 0, map.cell(1, 0, 1));
        due("wall", 1, map.cell(2, 0, 1));
        due("height stays under a wall", 6, map.cell(2, 0, 0));
        due("cell that is not told", 8, map.cell(3, 0, 0));
        due("empty row", 0, map.cell(0, 1, 0));
        due("third row", 9, map.cell(0, 2, 0));
        due("text is empty then", 0, map.count(11));
        due("12 cells", 1, loaded(map, "000000000009;"));
        due("last column", 9, map.cell(11, 0, 0));
        due("10 rows", 10, loaded(map, ";;;;;;;;;00000000000#; "));
        due("last cell", 1, map.cell(11, 9, 1));
        due("full text", 9, loaded(map, "012345678901;".repeat(9) + "   "));
        due("spaces alone", 0, loaded(map, "   "));
        map.addScout(0, 5, 0, 1);
        due("digit on a scout's cell", 1, loaded(map, "00000 7;"));
        due("height under a scout", 7, map.cell(5, 0, 0));
        due("the sides look behind it", 7, map.known(0, 5, 0, 1));
    }

    private static void loadErrors() {
        badText("1", 1);
        badText("1;2", 3);
        badText("1;2   ", 6);
        badText("x", 0);
        badText(" ;1:;", 3);
        badText("/;", 0);
        badText("1\t;", 1);
        badText("0000000000000;", 12);
        badText("000000000000#;", 12);
        badText("000000000000 x", 13);
        badText("000000000000", 12);
        badText(";;;;;;;;;;;", 10);
        badText(";;;;;;;;;;1;", 10);
        badText(";;;;;;;;;;  #", 12);
        badText(";;;#", 3);
        badText("0;1;2;00#;", 8);
        badText("1".repeat(120), 12);
        badText(" ".repeat(119) + "1", 120);
    }

    /** A scout stands in column 2 of row 3, another one in column 0 of row 3. */
    private static void badText(String text, int position) {
        FogMap map = new FogMap();
        map.addScout(0, 2, 3, 2);
        map.addScout(1, 0, 3, 1);
        due("error in '" + text + "'", -1000 - position, loaded(map, text));
        due("text is kept: '" + text + "'", text.length(), map.count(11));
        due("no action: '" + text + "'", 2, map.count(10));
        due("nothing is read: '" + text + "'", 0, map.cell(0, 0, 0));
        due("the same error again: '" + text + "'", -1000 - position, map.load());
    }

    private static void loadIsOneAction() {
        FogMap map = new FogMap();
        due("empty text", 0, map.load());
        due("is an action", 1, map.count(10));
        due("many cells", 2, loaded(map, "123;456;"));
        due("are one action", 2, map.count(10));
        due("undo", 1, map.undo());
        due("heights are back", 0, map.cell(2, 1, 0));
        due("the text stays empty", 0, map.count(11));
    }

    // Promise 7
    private static void addScout() {
        FogMap map = new FogMap();
        due("first", 0, map.addScout(0, 0, 0, 1));
        due("second", 1, map.addScout(1, 11, 9, 8));
        due("taken cell", ILLEGAL, map.addScout(1, 0, 0, 1));
        map.setWall(5, 5, 1);
        due("walled cell", ILLEGAL, map.addScout(0, 5, 5, 1));
        for (int i = 2; i < 10; i++) {
            due("more", i, map.addScout(0, i, 0, 1));
        }
        due("ten", FULL, map.addScout(0, 0, 5, 1));
        due("ten, and a taken cell", ILLEGAL, map.addScout(0, 0, 0, 1));
        due("ten, and a walled cell", ILLEGAL, map.addScout(0, 5, 5, 1));
        due("ten, and a wrong range", INVALID, map.addScout(0, 0, 5, 9));
        due("count", 10, map.count(0));
        due("side 0 looked", 10, map.known(0, 0, 0, 0));
        due("side 1 looked", 10, map.known(1, 11, 9, 0));
    }

    // Promise 8
    private static void stepCounts() {
        FogMap map = new FogMap();
        map.addScout(0, 5, 5, 1);
        due("to the right", 3, map.step(0, 1, 0));
        due("column", 6, map.scout(0, 1));
        due("row", 5, map.scout(0, 2));
        due("back", 0, map.step(0, -1, 0));
        due("aslant", 3, map.step(0, 1, 1));
        due("aslant again", 5, map.step(0, 1, 1));
        due("up", 1, map.step(0, 0, -1));
        due("history", 5, map.count(10));
        map.addScout(1, 6, 6, 8);
        due("what the other side knows does not count", 3, map.step(0, 1, 0));
        map.pass(10);
        due("into fog that came back", 3, map.step(0, -1, 0));
        map.addScout(0, 0, 0, 8);
        due("what others of its side see does not count", 0, map.step(0, -1, -1));
    }

    private static void stepRules() {
        FogMap map = new FogMap();
        map.addScout(0, 0, 0, 1);
        due("beyond the map", ILLEGAL, map.step(0, -1, 0));
        due("beyond the map", ILLEGAL, map.step(0, 0, -1));
        due("beyond the map, aslant", ILLEGAL, map.step(0, 1, -1));
        map.setHeight(1, 0, 3);
        due("3 up", ILLEGAL, map.step(0, 1, 0));
        map.setHeight(0, 0, 1);
        due("2 up", 2, map.step(0, 1, 0));
        map.setHeight(0, 0, 0);
        due("3 down", ILLEGAL, map.step(0, -1, 0));
        map.setHeight(0, 0, 1);
        due("2 down", 0, map.step(0, -1, 0));
        map.setWall(0, 1, 1);
        due("wall", ILLEGAL, map.step(0, 0, 1));
        map.addScout(1, 1, 1, 1);
        due("scout of the other side", ILLEGAL, map.step(0, 1, 1));
        map.removeScout(1);
        map.addScout(0, 1, 1, 1);
        due("scout of its side", ILLEGAL, map.step(0, 1, 1));
        due("not a step", INVALID, map.step(0, 0, 0));
        map.addScout(1, 11, 9, 1);
        due("beyond the last column", ILLEGAL, map.step(2, 1, 0));
        due("beyond the last row", ILLEGAL, map.step(2, 0, 1));
        due("from the last cell", 5, map.step(2, -1, -1));
    }

    // Promise 9
    private static void removeScout() {
        FogMap map = new FogMap();
        map.addScout(0, 0, 0, 1);
        map.addScout(1, 5, 5, 2);
        map.addScout(0, 9, 9, 3);
        due("remove the first", 2, map.removeScout(0));
        due("side of the next", 1, map.scout(0, 0));
        due("column of the next", 5, map.scout(0, 1));
        due("row of the next", 5, map.scout(0, 2));
        due("range of the next", 2, map.scout(0, 3));
        due("side of the last", 0, map.scout(1, 0));
        due("range of the last", 3, map.scout(1, 3));
        due("its cell", NONE, map.cell(0, 0, 3));
        due("cell of the last", 1, map.cell(9, 9, 3));
        due("memory stays", 10, map.known(0, 0, 0, 0));
        due("but it is not seen", 0, map.known(0, 0, 0, 4));
        due("remove the last", 1, map.removeScout(1));
        due("remove the only one", 0, map.removeScout(0));
        due("none is left", INVALID, map.removeScout(0));
    }

    // Promise 10
    private static void addLight() {
        FogMap map = new FogMap();
        due("first", 0, map.addLight(0, 0, 0, 0));
        due("does not burn", 0, map.count(2));
        due("nothing is lit", 0, map.count(3));
        due("second", 1, map.addLight(11, 9, 4, 50));
        due("lit from the corner", 25, map.count(3));
        map.setWall(5, 5, 1);
        map.addScout(0, 6, 5, 1);
        due("on a wall", 2, map.addLight(5, 5, 0, 1));
        due("on a scout", 3, map.addLight(6, 5, 0, 1));
        due("on a light", 4, map.addLight(6, 5, 0, 1));
        due("last", 5, map.addLight(6, 5, 0, 1));
        due("six", FULL, map.addLight(6, 5, 0, 1));
        due("six, and a wrong oil", INVALID, map.addLight(6, 5, 0, 51));
        map = new FogMap();
        map.addScout(1, 0, 0, 3);
        map.addLight(6, 0, 0, 1);
        due("the sides look behind it", 10, map.known(1, 6, 0, 0));
    }

    // Promise 11
    private static void setOil() {
        FogMap map = new FogMap();
        map.addScout(0, 0, 0, 1);
        map.addLight(2, 0, 0, 0);
        due("fill", 0, map.setOil(0, 50));
        due("the sides look behind it", 1, map.known(0, 2, 0, 4));
        due("put out", 50, map.setOil(0, 0));
        due("dark", 0, map.known(0, 2, 0, 4));
        due("remembered", 10, map.known(0, 2, 0, 0));
        due("oil", 0, map.light(0, 3));
        due("history", 4, map.count(10));
        due("no second light", INVALID, map.setOil(1, 3));
    }

    // Promise 12
    private static void removeLight() {
        FogMap map = new FogMap();
        map.addLight(0, 0, 1, 5);
        map.addLight(5, 6, 2, 7);
        map.addLight(9, 8, 3, 9);
        due("remove the first", 2, map.removeLight(0));
        due("column", 5, map.light(0, 0));
        due("row", 6, map.light(0, 1));
        due("radius", 2, map.light(0, 2));
        due("oil", 7, map.light(0, 3));
        due("column of the last", 9, map.light(1, 0));
        due("oil of the last", 9, map.light(1, 3));
        due("dark", 0, map.cell(0, 0, 2));
        due("remove the last", 1, map.removeLight(1));
        due("remove the only one", 0, map.removeLight(0));
        due("no light", INVALID, map.removeLight(0));
        due("nothing is lit", 0, map.count(3));
    }

    // Promise 13
    private static void setFogTime() {
        FogMap map = new FogMap();
        map.addScout(0, 0, 0, 1);
        map.step(0, 1, 1);
        map.step(0, 1, 1);
        map.pass(2);
        due("remembered", 8, map.known(0, 0, 0, 0));
        due("previous", 10, map.setFogTime(5));
        due("as great as it", 5, map.known(0, 0, 0, 0));
        due("seen", 5, map.known(0, 2, 2, 0));
        due("longer", 5, map.setFogTime(99));
        due("remembered stays", 5, map.known(0, 0, 0, 0));
        due("seen becomes longer", 99, map.known(0, 2, 2, 0));
        due("shortest", 99, map.setFogTime(1));
        due("all are 1", 1, map.known(0, 0, 0, 0));
        due("not fogged", 14, map.count(8));
        map.pass(1);
        due("only what is seen", 9, map.count(8));
        due("fog time", 1, map.count(4));
    }

    // Promise 14
    private static void passBurnsAndFades() {
        FogMap map = new FogMap();
        map.addLight(0, 0, 0, 1);
        map.addLight(1, 0, 0, 3);
        map.addLight(2, 0, 0, 0);
        map.addLight(8, 0, 0, 4);
        map.addScout(0, 0, 0, 4);
        due("seen by light", 10, map.known(0, 8, 0, 0));
        due("two go out", 2, map.pass(3));
        due("oil stays 0", 0, map.light(2, 3));
        due("oil", 1, map.light(3, 3));
        due("still seen by light", 10, map.known(0, 8, 0, 0));
        due("one goes out", 1, map.pass(1));
        due("the memory fades in that turn", 9, map.known(0, 8, 0, 0));
        due("not seen", 0, map.known(0, 8, 0, 4));
        due("none goes out", 0, map.pass(8));
        due("nearly fogged", 1, map.known(0, 8, 0, 0));
        due("known still", 0, map.known(0, 8, 0, 1));
        map.pass(1);
        due("fogged", NONE, map.known(0, 8, 0, 1));
        map.pass(99);
        due("memory stays 0", 0, map.known(0, 8, 0, 0));
        due("turns", 112, map.count(5));
    }

    private static void passIsOneAction() {
        FogMap map = new FogMap();
        map.addLight(0, 0, 0, 50);
        due("pass", 0, map.pass(49));
        due("one action", 2, map.count(10));
        due("goes out", 1, map.pass(99));
        due("undo", 2, map.undo());
        due("oil is back", 1, map.light(0, 3));
        due("turns are back", 49, map.count(5));
    }

    // Promise 15
    private static void undo() {
        FogMap map = new FogMap();
        for (int height = 1; height <= 7; height++) {
            map.setHeight(0, 0, height);
            due("history", Math.min(height, 5), map.count(10));
        }
        for (int height = 6; height >= 2; height--) {
            due("left", height - 2, map.undo());
            due("height", height, map.cell(0, 0, 0));
        }
        due("empty", ILLEGAL, map.undo());
        map.setHeight(0, 0, 9);
        due("again", 0, map.undo());
        due("height again", 2, map.cell(0, 0, 0));
        map.setHeight(0, 0, 8);
        map.setHeight(0, 0, 7);
        map.undo();
        map.setHeight(0, 0, 6);
        due("after an undo", 1, map.undo());
        due("the latest state", 8, map.cell(0, 0, 0));
    }

    private static void undoRestoresAll() {
        FogMap map = new FogMap();
        map.addScout(0, 5, 5, 2);
        map.addLight(8, 5, 0, 9);
        write(map, "12");
        map.setFogTime(7);
        map.step(0, 1, 0);
        map.pass(3);
        due("undo pass", 4, map.undo());
        due("turns", 0, map.count(5));
        due("oil", 9, map.light(0, 3));
        due("memory", 7, map.known(0, 3, 5, 0));
        due("undo step", 3, map.undo());
        due("column", 5, map.scout(0, 1));
        due("fogged again", NONE, map.known(0, 10, 5, 1));
        due("undo fog time", 2, map.undo());
        due("fog time", 10, map.count(4));
        due("memory", 10, map.known(0, 3, 5, 0));
        due("undo light", 1, map.undo());
        due("no light", 0, map.count(1));
        due("the text stays", 2, map.count(11));
        map.removeScout(0);
        map.undo();
        due("the scout is back", 0, map.cell(5, 5, 3));
        due("and sees", 25, map.scout(0, 4));
    }

    private static void undoRestoresLists() {
        FogMap map = new FogMap();
        map.addScout(0, 1, 2, 3);
        map.addScout(1, 4, 2, 5);
        map.addLight(6, 7, 2, 9);
        map.addLight(8, 7, 3, 4);
        map.setWall(2, 3, 1);
        map.setHeight(2, 2, 1);
        map.removeScout(0);
        map.removeLight(0);
        map.setWall(2, 3, 0);
        map.setHeight(2, 2, 0);
        for (int left = 3; left >= 0; left--) {
            map.undo();
        }
        int[] scout = {0, 1, 2, 3};
        int[] light = {6, 7, 2, 9};
        for (int what = 0; what < 4; what++) {
            due("scout, " + what, scout[what], map.scout(0, what));
            due("light, " + what, light[what], map.light(0, what));
        }
        due("wall", 1, map.cell(2, 3, 1));
        due("height", 1, map.cell(2, 2, 0));
        due("known wall", 1, map.known(0, 2, 3, 2));
        due("known height", 1, map.known(0, 2, 2, 1));
        map.setHeight(2, 2, 0);
        map.removeScout(1);
        due("known scout is gone", 0, map.known(0, 4, 2, 3));
        due("undo", 2, map.undo());
        due("known scout is back", 1, map.known(0, 4, 2, 3));
    }

    private static void actionsAreRecorded() {
        Call[] actions = {Call.of("setHeight", 0, 0, 0), Call.of("setWall", 0, 0, 0), Call.of("load"),
            Call.of("addScout", 0, 0, 0, 1), Call.of("step", 0, 1, 1), Call.of("removeScout", 0),
            Call.of("addLight", 0, 0, 0, 0), Call.of("setOil", 0, 0), Call.of("removeLight", 0),
            Call.of("setFogTime", 10), Call.of("pass", 1)};
        for (Call action : actions) {
            FogMap map = new FogMap();
            map.addScout(1, 5, 5, 1);
            map.addLight(5, 5, 1, 1);
            action.on(map);
            due(action + " is recorded once", 3, map.count(10));
            due("undo of " + action, 2, map.undo());
        }
    }

    private static void sidesLookBehindActions() {
        FogMap map = new FogMap();
        map.addScout(0, 0, 0, 1);
        map.addScout(1, 1, 0, 1);
        due("new scout is known", 1, map.known(0, 1, 0, 3));
        map.removeScout(1);
        due("removed scout is known", 0, map.known(0, 1, 0, 3));
        map.addScout(1, 1, 1, 1);
        map.addLight(2, 0, 0, 1);
        due("seen by a new light", 10, map.known(0, 2, 0, 0));
        map.step(1, 1, 0);
        due("the other side looks behind a step", 0, map.known(0, 1, 1, 3));
    }

    // Promise 16
    private static void count() {
        FogMap map = new FogMap();
        map.addScout(0, 5, 5, 1);
        map.addScout(1, 0, 0, 1);
        map.addScout(1, 11, 9, 2);
        map.addLight(11, 0, 1, 2);
        map.addLight(10, 0, 1, 0);
        map.append(';');
        map.pass(1);
        map.step(0, 1, 0);
        int[] due = {3, 2, 1, 4, 10, 1, 9, 13, 12, 13, 5, 1};
        for (int what = 0; what < due.length; what++) {
            due("count " + what, due[what], map.count(what));
        }
        due("count -1", INVALID, map.count(-1));
        due("count 12", INVALID, map.count(12));
        map = new FogMap();
        map.addLight(5, 5, 4, 1);
        map.addLight(6, 5, 4, 1);
        due("lit by several", 90, map.count(3));
        map = new FogMap();
        map.addScout(0, 0, 0, 1);
        map.addScout(0, 1, 0, 1);
        due("seen by several", 6, map.count(6));
        due("other side", 0, map.count(7));
        map.addScout(1, 5, 5, 8);
        due("all is seen", 120, map.count(7));
    }

    // Promise 17
    private static void cell() {
        FogMap map = new FogMap();
        map.setHeight(11, 9, 3);
        map.setWall(11, 8, 1);
        map.addScout(1, 0, 9, 1);
        map.addScout(0, 11, 9, 1);
        map.addLight(11, 0, 1, 1);
        due("height", 3, map.cell(11, 9, 0));
        due("wall", 1, map.cell(11, 8, 1));
        due("open", 0, map.cell(11, 9, 1));
        due("lit", 1, map.cell(10, 1, 2));
        due("not lit", 0, map.cell(9, 0, 2));
        due("not lit", 0, map.cell(11, 2, 2));
        due("scout 0", 0, map.cell(0, 9, 3));
        due("scout 1", 1, map.cell(11, 9, 3));
        due("no scout", NONE, map.cell(11, 8, 3));
        due("nothing", INVALID, map.cell(0, 0, 4));
        due("nothing", INVALID, map.cell(0, 0, -1));
        due("no cell", INVALID, map.cell(12, 0, 0));
        due("no cell", INVALID, map.cell(0, 10, 0));
    }

    // Promise 18
    private static void scout() {
        FogMap map = new FogMap();
        map.addScout(1, 11, 9, 8);
        map.addScout(0, 5, 5, 8);
        int[] due = {1, 11, 9, 8, 81, 1};
        for (int what = 0; what < due.length; what++) {
            due("scout 0, " + what, due[what], map.scout(0, what));
        }
        due("sees all", 120, map.scout(1, 4));
        due("no scout", INVALID, map.scout(2, 0));
        due("no scout", INVALID, map.scout(-1, 0));
        due("nothing", INVALID, map.scout(0, 6));
        due("nothing", INVALID, map.scout(0, -1));
        due("spotted", 1, map.scout(1, 5));
    }

    private static void spotted() {
        FogMap map = new FogMap();
        map.addScout(0, 0, 0, 2);
        map.addScout(1, 3, 0, 3);
        due("seen from farther away", 1, map.scout(0, 5));
        due("not seen", 0, map.scout(1, 5));
        map.addLight(3, 0, 0, 1);
        due("lit", 1, map.scout(1, 5));
        map.setWall(1, 0, 1);
        due("behind a wall", 0, map.scout(0, 5));
        map.addScout(0, 4, 0, 1);
        due("seen by another one", 1, map.scout(1, 5));
        map.removeScout(1);
        due("its own side does not count", 0, map.scout(1, 5));
    }

    // Promise 19
    private static void light() {
        FogMap map = new FogMap();
        map.addLight(11, 9, 4, 50);
        map.addLight(1, 2, 3, 4);
        int[][] due = {{11, 9, 4, 50}, {1, 2, 3, 4}};
        for (int light = 0; light < 2; light++) {
            for (int what = 0; what < 4; what++) {
                due("light " + light + ", " + what, due[light][what], map.light(light, what));
            }
        }
        due("no light", INVALID, map.light(2, 0));
        due("no light", INVALID, map.light(-1, 0));
        due("nothing", INVALID, map.light(0, 4));
        due("nothing", INVALID, map.light(0, -1));
    }

    // Promise 20
    private static void known() {
        FogMap map = new FogMap();
        map.setHeight(1, 0, 1);
        map.setWall(1, 1, 1);
        map.addScout(0, 0, 0, 1);
        map.addScout(1, 0, 1, 1);
        int[][] due = {{10, 1, 0, 0, 1}, {10, 0, 1, 0, 1}, {10, 0, 0, 1, 1}, {10, 0, 0, 0, 1}};
        int[][] cells = {{1, 0}, {1, 1}, {0, 1}, {0, 0}};
        for (int i = 0; i < cells.length; i++) {
            for (int what = 0; what <= 4; what++) {
                due("known " + i + ", " + what, due[i][what], map.known(0, cells[i][0], cells[i][1], what));
            }
        }
        due("the other side knows the scout", 1, map.known(1, 0, 0, 3));
        due("fogged", 0, map.known(0, 11, 9, 0));
        due("fogged height", NONE, map.known(0, 11, 9, 1));
        due("fogged wall", NONE, map.known(0, 11, 9, 2));
        due("fogged scout", NONE, map.known(0, 11, 9, 3));
        due("fogged cell is not seen", 0, map.known(0, 11, 9, 4));
        due("nothing, of a fogged cell", INVALID, map.known(0, 11, 9, 5));
        due("nothing", INVALID, map.known(0, 0, 0, -1));
        due("no side", INVALID, map.known(2, 0, 0, 0));
        due("no side", INVALID, map.known(-1, 0, 0, 0));
    }

    private static void knownIsOld() {
        FogMap map = new FogMap();
        map.addScout(0, 5, 5, 2);
        map.addScout(1, 7, 5, 1);
        due("seen", 1, map.known(0, 7, 5, 3));
        due("out of sight", 5 - 2, map.step(1, 1, 0));
        due("its old cell is seen", 0, map.known(0, 7, 5, 3));
        due("into sight", 0, map.step(1, -1, 0));
        map.step(0, -1, 0);
        map.step(1, 1, 0);
        due("where it was seen", 1, map.known(0, 7, 5, 3));
        map.setHeight(7, 6, 4);
        map.setWall(7, 4, 1);
        due("old height", 0, map.known(0, 7, 6, 1));
        due("old wall", 0, map.known(0, 7, 4, 2));
        due("new height for the one who sees", 4, map.known(1, 7, 6, 1));
        map.removeScout(1);
        due("a removed scout stays known", 1, map.known(0, 7, 5, 3));
        map.step(0, 1, 0);
        due("seen again", 0, map.known(0, 7, 5, 3));
        due("new height", 4, map.known(0, 7, 6, 1));
        due("new wall", 1, map.known(0, 7, 4, 2));
    }

    // Promise 21
    private static void view() {
        FogMap map = new FogMap();
        due("flat", 1, map.view(0, 0, 11, 9));
        due("same cell", 1, map.view(3, 3, 3, 3));
        map.setHeight(1, 0, 1);
        due("over a hill", 0, map.view(0, 0, 2, 0));
        map.setHeight(2, 0, 1);
        due("top is the sight", 1, map.view(0, 0, 2, 0));
        due("the other way round", 1, map.view(2, 0, 0, 0));
        due("the sight is rounded down near the eye", 0, map.view(0, 0, 2 + 1, 0));
        map.setHeight(1, 0, 0);
        map.setHeight(2, 0, 1);
        map.setHeight(3, 0, 1);
        due("and greater near the goal", 1, map.view(0, 0, 3, 0));
        map.setWall(5, 5, 1);
        due("to a wall", 1, map.view(3, 5, 5, 5));
        due("from a wall", 1, map.view(5, 5, 5, 9));
        due("through a wall", 0, map.view(4, 5, 6, 5));
        map.setHeight(4, 5, 9);
        map.setHeight(6, 5, 9);
        due("over a wall", 0, map.view(4, 5, 6, 5));
        due("next to a wall", 1, map.view(4, 5, 5, 5));
        map.setWall(4, 5, 1);
        due("between two walls", 1, map.view(4, 5, 5, 5));
        due("no cell", INVALID, map.view(0, 0, 0, 10));
        due("no cell", INVALID, map.view(-1, 0, 0, 0));
    }

    private static void viewHeights() {
        FogMap map = new FogMap();
        map.setHeight(0, 0, 2);
        map.setHeight(1, 0, 2);
        due("the eye is twice the height, plus 1", 0, map.view(0, 0, 3, 0));
        due("the goal too", 0, map.view(3, 0, 0, 0));
        map.setHeight(1, 0, 1);
        due("lower", 1, map.view(0, 0, 3, 0));
        map.setHeight(0, 0, 9);
        map.setHeight(1, 0, 6);
        due("sight 13, top 12", 1, map.view(0, 0, 3, 0));
        map.setHeight(1, 0, 7);
        due("sight 13, top 14", 0, map.view(0, 0, 3, 0));
        map.setHeight(3, 0, 9);
        map.setHeight(1, 0, 9);
        due("sight 19, top 18", 1, map.view(0, 0, 3, 0));
    }

    private static void viewLines() {
        lineIsBlocked(0, 0, 3, 1, new int[][] {{1, 0}, {2, 1}}, new int[][] {{1, 1}, {2, 0}, {0, 0}, {3, 1}});
        lineIsBlocked(0, 0, 2, 1, new int[][] {{1, 1}}, new int[][] {{1, 0}});
        lineIsBlocked(0, 1, 2, 0, new int[][] {{1, 1}}, new int[][] {{1, 0}});
        lineIsBlocked(0, 1, 4, 0, new int[][] {{1, 1}, {2, 1}, {3, 0}}, new int[][] {{1, 0}, {2, 0}, {3, 1}});
        lineIsBlocked(5, 9, 4, 5, new int[][] {{5, 8}, {5, 7}, {4, 6}}, new int[][] {{4, 8}, {4, 7}, {5, 6}});
        lineIsBlocked(11, 9, 8, 6, new int[][] {{10, 8}, {9, 7}}, new int[][] {{10, 9}, {11, 8}});
    }

    private static void lineIsBlocked(int column, int row, int column2, int row2, int[][] on, int[][] off) {
        for (int[] cell : on) {
            FogMap map = new FogMap();
            map.setWall(cell[0], cell[1], 1);
            due("wall on the line", 0, map.view(column, row, column2, row2));
            due("wall on the line back", 0, map.view(column2, row2, column, row));
        }
        for (int[] cell : off) {
            FogMap map = new FogMap();
            map.setWall(cell[0], cell[1], 1);
            due("wall beside the line", 1, map.view(column, row, column2, row2));
        }
    }

    private static void twiceTheRange() {
        FogMap map = new FogMap();
        map.addScout(0, 0, 0, 4);
        map.addLight(8, 0, 0, 1);
        map.addLight(9, 0, 0, 1);
        due("within the range", 1, map.known(0, 4, 4, 4));
        due("beyond the range", 0, map.known(0, 5, 0, 4));
        due("lit, at twice the range", 1, map.known(0, 8, 0, 4));
        due("lit, beyond twice the range", 0, map.known(0, 9, 0, 4));
        map.setWall(6, 0, 1);
        due("lit, behind a wall", 0, map.known(0, 8, 0, 4));
    }

    // Promise 22
    private static void way() {
        FogMap map = new FogMap();
        map.addScout(0, 0, 0, 8);
        due("where it stands", 0, map.way(0, 0, 0));
        due("aslant", 8, map.way(0, 8, 8));
        due("longer side", 7, map.way(0, 3, 7));
        due("fogged goal", NONE, map.way(0, 9, 0));
        map.setWall(1, 1, 1);
        map.setWall(0, 1, 1);
        due("around", 2, map.way(0, 2, 0));
        map.setHeight(1, 0, 2);
        due("over 2", 1, map.way(0, 1, 0));
        map.setHeight(1, 0, 3);
        due("not over 3", NONE, map.way(0, 1, 0));
        map.setHeight(1, 0, 0);
        map.addScout(0, 1, 0, 1);
        due("own scouts do not matter", 2, map.way(0, 2, 0));
        due("also at the end", 1, map.way(0, 1, 0));
        map.removeScout(1);
        map.addScout(1, 1, 0, 1);
        due("scout of the other side", NONE, map.way(0, 2, 0));
        due("also at the end", NONE, map.way(0, 1, 0));
        due("wall", NONE, map.way(0, 1, 1));
        due("no cell", INVALID, map.way(0, 12, 0));
        due("no cell", INVALID, map.way(0, 0, 10));
        due("no scout", INVALID, map.way(2, 0, 0));
        map = new FogMap();
        map.addScout(0, 0, 0, 1);
        map.addScout(0, 11, 9, 1);
        due("known cells, but none between", NONE, map.way(0, 11, 9));
    }

    private static void wayByKnowledge() {
        FogMap map = new FogMap();
        map.addScout(0, 0, 0, 1);
        map.addScout(0, 2, 0, 1);
        map.removeScout(1);
        map.setHeight(3, 0, 9);
        map.setWall(3, 1, 1);
        map.addScout(1, 2, 1, 1);
        due("known height", 3, map.way(0, 3, 0));
        due("known as open", 3, map.way(0, 3, 1));
        due("known as without a scout", 2, map.way(0, 2, 1));
        due("what the other side knows", NONE, map.way(1, 3, 1));
        map.setHeight(1, 0, 3);
        map.setHeight(1, 1, 3);
        due("a height that is seen", NONE, map.way(0, 3, 0));
        map.setHeight(1, 0, 0);
        map.pass(9);
        due("nearly fogged", 3, map.way(0, 3, 0));
        map.pass(1);
        due("fogged again", NONE, map.way(0, 3, 0));
        due("still seen", 1, map.way(0, 1, 0));
    }

    // Promise 23
    private static void lookout() {
        FogMap map = new FogMap();
        map.addScout(0, 0, 0, 1);
        due("its own cell", 0, map.lookout(0, 0));
        due("a neighbor", 101, map.lookout(0, 1));
        due("smallest column, then row", 101, map.lookout(0, 11));
        map.addScout(1, 1, 1, 1);
        due("not where a scout stands", 102, map.lookout(0, 11));
        due("of equal ones the smallest column", 1, map.lookout(0, 1));
        map.setWall(1, 2, 1);
        due("not in a wall", 103, map.lookout(0, 11));
        map = new FogMap();
        map.addScout(0, 0, 0, 8);
        due("all the map", 301, map.lookout(0, 11));
        due("all the map is too far away", 201, map.lookout(0, 2));
        due("as far as 3", 301, map.lookout(0, 3));
        map = new FogMap();
        map.addScout(0, 5, 5, 1);
        map.addLight(7, 2, 0, 1);
        due("by a light", 504, map.lookout(0, 1));
        due("distance", INVALID, map.lookout(0, 12));
        due("distance", INVALID, map.lookout(0, -1));
        due("no scout", INVALID, map.lookout(1, 0));
    }

    // Promise 24
    private static void alone() {
        FogMap map = new FogMap();
        map.addScout(0, 0, 0, 1);
        due("all that it sees", 4, map.alone(0));
        map.addScout(0, 1, 0, 1);
        due("none", 0, map.alone(0));
        due("two", 2, map.alone(1));
        map.addScout(1, 2, 0, 1);
        due("the other side does not matter", 2, map.alone(1));
        due("all of the other side", 6, map.alone(2));
        due("no scout", INVALID, map.alone(3));
        due("no scout", INVALID, map.alone(-1));
    }
}
