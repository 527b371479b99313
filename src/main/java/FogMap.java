import java.util.Arrays;

/**
 * A map under fog: cells with heights, walls and lights, scouts of two sides that see by lines over
 * the heights, and what each side remembers of the cells that it saw.
 */
public final class FogMap {
    public static final int INVALID_ARGUMENT = -11;
    public static final int ILLEGAL_STATE = -12;
    public static final int CAPACITY_EXCEEDED = -13;
    public static final int NONE = -19;

    private static final int COLUMNS = 12;
    private static final int ROWS = 10;
    private static final int CELLS = COLUMNS * ROWS;
    private static final int SIDES = 2;
    private static final int MOST_HEIGHT = 9;
    private static final int MOST_CLIMB = 2;
    private static final int MOST_SCOUTS = 10;
    private static final int MOST_RANGE = 8;
    private static final int MOST_LIGHTS = 6;
    private static final int MOST_RADIUS = 4;
    private static final int MOST_OIL = 50;
    private static final int MOST_TURNS = 99;
    private static final int FIRST_FOG_TIME = 10;
    private static final int MOST_DISTANCE = 11;
    private static final int WALL_TOP = 100;
    private static final int MOST_CHARACTERS = 120;
    private static final int MOST_CODE = 255;
    private static final int TEXT_ERROR = -1000;
    private static final int MOST_STATES = 5;

    private final State state = new State();
    private final Sight sight = new Sight();
    private final History history = new History();
    private final Text text = new Text();
    private final Ways ways = new Ways();

    public FogMap() {
    }

    // ---- map

    public int setHeight(int column, int row, int height) {
        if (!isCell(column, row) || !isWithin(height, 0, MOST_HEIGHT)) {
            return INVALID_ARGUMENT;
        }
        int cell = cellAt(column, row);
        int previous = state.heights[cell];
        history.keep(state);
        state.heights[cell] = height;
        look();
        return previous;
    }

    public int setWall(int column, int row, int wall) {
        if (!isCell(column, row) || !isWithin(wall, 0, 1)) {
            return INVALID_ARGUMENT;
        }
        int cell = cellAt(column, row);
        if (wall == 1 && state.scoutIn(cell) != NONE) {
            return ILLEGAL_STATE;
        }
        int previous = state.walls[cell];
        history.keep(state);
        state.walls[cell] = wall;
        look();
        return previous;
    }

    public int append(int character) {
        if (!isWithin(character, 1, MOST_CODE)) {
            return INVALID_ARGUMENT;
        }
        if (text.length >= MOST_CHARACTERS) {
            return CAPACITY_EXCEEDED;
        }
        text.put(character);
        return text.length;
    }

    public int clearText() {
        int previous = text.length;
        text.length = 0;
        return previous;
    }

    public int load() {
        int rows = text.read(state);
        if (rows < 0) {
            return rows;
        }
        history.keep(state);
        text.tellTo(state);
        text.length = 0;
        look();
        return rows;
    }

    // ---- scouts and lights

    public int addScout(int side, int column, int row, int range) {
        if (!isWithin(side, 0, SIDES - 1) || !isCell(column, row) || !isWithin(range, 1, MOST_RANGE)) {
            return INVALID_ARGUMENT;
        }
        int cell = cellAt(column, row);
        if (!state.isFree(cell)) {
            return ILLEGAL_STATE;
        }
        if (state.scoutCount >= MOST_SCOUTS) {
            return CAPACITY_EXCEEDED;
        }
        history.keep(state);
        state.putScout(side, cell, range);
        look();
        return state.scoutCount - 1;
    }

    public int step(int scout, int across, int down) {
        if (!isScout(scout) || !isWithin(across, -1, 1) || !isWithin(down, -1, 1)) {
            return INVALID_ARGUMENT;
        }
        if (across == 0 && down == 0) {
            return INVALID_ARGUMENT;
        }
        int from = state.scoutCells[scout];
        int column = columnOf(from) + across;
        int row = rowOf(from) + down;
        if (!isCell(column, row) || !canStep(from, cellAt(column, row))) {
            return ILLEGAL_STATE;
        }
        history.keep(state);
        state.scoutCells[scout] = cellAt(column, row);
        sight.refresh(state);
        int uncovered = countUncovered(state.scoutSides[scout]);
        state.remember(sight);
        return uncovered;
    }

    public int removeScout(int scout) {
        if (!isScout(scout)) {
            return INVALID_ARGUMENT;
        }
        history.keep(state);
        state.dropScout(scout);
        look();
        return state.scoutCount;
    }

    public int addLight(int column, int row, int radius, int oil) {
        if (!isCell(column, row) || !isWithin(radius, 0, MOST_RADIUS) || !isWithin(oil, 0, MOST_OIL)) {
            return INVALID_ARGUMENT;
        }
        if (state.lightCount >= MOST_LIGHTS) {
            return CAPACITY_EXCEEDED;
        }
        history.keep(state);
        state.putLight(cellAt(column, row), radius, oil);
        look();
        return state.lightCount - 1;
    }

    public int setOil(int light, int oil) {
        if (!isLight(light) || !isWithin(oil, 0, MOST_OIL)) {
            return INVALID_ARGUMENT;
        }
        int previous = state.lightOils[light];
        history.keep(state);
        state.lightOils[light] = oil;
        look();
        return previous;
    }

    public int removeLight(int light) {
        if (!isLight(light)) {
            return INVALID_ARGUMENT;
        }
        history.keep(state);
        state.dropLight(light);
        look();
        return state.lightCount;
    }

    public int setFogTime(int turns) {
        if (!isWithin(turns, 1, MOST_TURNS)) {
            return INVALID_ARGUMENT;
        }
        int previous = state.fogTime;
        history.keep(state);
        state.changeFogTime(turns);
        look();
        return previous;
    }

    public int pass(int turns) {
        if (!isWithin(turns, 1, MOST_TURNS)) {
            return INVALID_ARGUMENT;
        }
        history.keep(state);
        int wentOut = 0;
        for (int turn = 0; turn < turns; turn++) {
            wentOut += passTurn();
        }
        return wentOut;
    }

    public int undo() {
        if (history.size == 0) {
            return ILLEGAL_STATE;
        }
        history.restore(state);
        sight.refresh(state);
        return history.size;
    }

    // ---- looking

    public int count(int what) {
        switch (what) {
            case 0: return state.scoutCount;
            case 1: return state.lightCount;
            case 2: return state.countBurning();
            case 3: return sight.countLit();
            case 4: return state.fogTime;
            case 5: return state.turns;
            case 6: return sight.countSeen(state.scoutsOf(0));
            case 7: return sight.countSeen(state.scoutsOf(1));
            case 8: return state.memories[0].countNotFogged();
            case 9: return state.memories[1].countNotFogged();
            case 10: return history.size;
            case 11: return text.length;
            default: return INVALID_ARGUMENT;
        }
    }

    public int cell(int column, int row, int what) {
        if (!isCell(column, row)) {
            return INVALID_ARGUMENT;
        }
        int cell = cellAt(column, row);
        switch (what) {
            case 0: return state.heights[cell];
            case 1: return state.walls[cell];
            case 2: return sight.lit[cell];
            case 3: return state.scoutIn(cell);
            default: return INVALID_ARGUMENT;
        }
    }

    public int scout(int scout, int what) {
        if (!isScout(scout)) {
            return INVALID_ARGUMENT;
        }
        int cell = state.scoutCells[scout];
        int side = state.scoutSides[scout];
        switch (what) {
            case 0: return side;
            case 1: return columnOf(cell);
            case 2: return rowOf(cell);
            case 3: return state.scoutRanges[scout];
            case 4: return sight.countSeen(bitOf(scout));
            case 5: return sight.isSeen(cell, state.scoutsOf(otherSide(side))) ? 1 : 0;
            default: return INVALID_ARGUMENT;
        }
    }

    public int light(int light, int what) {
        if (!isLight(light)) {
            return INVALID_ARGUMENT;
        }
        switch (what) {
            case 0: return columnOf(state.lightCells[light]);
            case 1: return rowOf(state.lightCells[light]);
            case 2: return state.lightRadii[light];
            case 3: return state.lightOils[light];
            default: return INVALID_ARGUMENT;
        }
    }

    public int known(int side, int column, int row, int what) {
        if (!isWithin(side, 0, SIDES - 1) || !isCell(column, row)) {
            return INVALID_ARGUMENT;
        }
        int cell = cellAt(column, row);
        Memory memory = state.memories[side];
        boolean fogged = memory.turnsLeft[cell] == 0;
        switch (what) {
            case 0: return memory.turnsLeft[cell];
            case 1: return fogged ? NONE : memory.heights[cell];
            case 2: return fogged ? NONE : memory.walls[cell];
            case 3: return fogged ? NONE : memory.enemies[cell];
            case 4: return sight.isSeen(cell, state.scoutsOf(side)) ? 1 : 0;
            default: return INVALID_ARGUMENT;
        }
    }

    public int view(int column, int row, int column2, int row2) {
        if (!isCell(column, row) || !isCell(column2, row2)) {
            return INVALID_ARGUMENT;
        }
        return Sight.isViewFree(state, cellAt(column, row), cellAt(column2, row2)) ? 1 : 0;
    }

    // ---- questions, which change nothing

    public int way(int scout, int column, int row) {
        if (!isScout(scout) || !isCell(column, row)) {
            return INVALID_ARGUMENT;
        }
        Memory memory = state.memories[state.scoutSides[scout]];
        return ways.shortest(memory, state.scoutCells[scout], cellAt(column, row));
    }

    public int lookout(int scout, int distance) {
        if (!isScout(scout) || !isWithin(distance, 0, MOST_DISTANCE)) {
            return INVALID_ARGUMENT;
        }
        int own = state.scoutCells[scout];
        int best = own;
        int most = 0;
        for (int column = 0; column < COLUMNS; column++) {
            for (int row = 0; row < ROWS; row++) {
                int cell = cellAt(column, row);
                if (distanceOf(own, cell) <= distance && (cell == own || state.isFree(cell))) {
                    int seen = sight.countSeenFrom(state, cell, state.scoutRanges[scout]);
                    if (seen > most) {
                        most = seen;
                        best = cell;
                    }
                }
            }
        }
        return 100 * columnOf(best) + rowOf(best);
    }

    public int alone(int scout) {
        if (!isScout(scout)) {
            return INVALID_ARGUMENT;
        }
        int mates = state.scoutsOf(state.scoutSides[scout]);
        int cells = 0;
        for (int cell = 0; cell < CELLS; cell++) {
            if ((sight.watchers[cell] & mates) == bitOf(scout)) {
                cells++;
            }
        }
        return cells;
    }

    private void look() {
        sight.refresh(state);
        state.remember(sight);
    }

    private int passTurn() {
        int wentOut = state.burn();
        state.turns++;
        state.fade();
        // During pass only a light that goes out changes what is seen.
        if (wentOut > 0) {
            sight.refresh(state);
        }
        state.remember(sight);
        return wentOut;
    }

    private boolean canStep(int from, int to) {
        return state.isFree(to) && Math.abs(state.heights[from] - state.heights[to]) <= MOST_CLIMB;
    }

    private int countUncovered(int side) {
        int scouts = state.scoutsOf(side);
        int cells = 0;
        for (int cell = 0; cell < CELLS; cell++) {
            if (sight.isSeen(cell, scouts) && state.memories[side].turnsLeft[cell] == 0) {
                cells++;
            }
        }
        return cells;
    }

    private boolean isScout(int number) {
        return isWithin(number, 0, state.scoutCount - 1);
    }

    private boolean isLight(int number) {
        return isWithin(number, 0, state.lightCount - 1);
    }

    private static boolean isWithin(int value, int least, int most) {
        return value >= least && value <= most;
    }

    private static boolean isCell(int column, int row) {
        return isWithin(column, 0, COLUMNS - 1) && isWithin(row, 0, ROWS - 1);
    }

    private static int cellAt(int column, int row) {
        return row * COLUMNS + column;
    }

    private static int columnOf(int cell) {
        return cell % COLUMNS;
    }

    private static int rowOf(int cell) {
        return cell / COLUMNS;
    }

    private static int distanceOf(int cell, int cell2) {
        int across = Math.abs(columnOf(cell) - columnOf(cell2));
        int down = Math.abs(rowOf(cell) - rowOf(cell2));
        return Math.max(across, down);
    }

    private static int otherSide(int side) {
        return 1 - side;
    }

    /** A set of scouts is an int in which each scout of the set has its bit. */
    private static int bitOf(int scout) {
        return 1 << scout;
    }

    private static void copy(int[] from, int[] to) {
        System.arraycopy(from, 0, to, 0, Math.min(from.length, to.length));
    }

    /** Moves the elements behind a place forward by 1, over it. */
    private static void closeGap(int[] numbers, int place, int size) {
        for (int i = place; i + 1 < size; i++) {
            numbers[i] = numbers[i + 1];
        }
    }

    /** All that undo() brings back. */
    private static final class State {
        final int[] heights = new int[CELLS];
        final int[] walls = new int[CELLS];
        int scoutCount = 0;
        final int[] scoutSides = new int[MOST_SCOUTS];
        final int[] scoutCells = new int[MOST_SCOUTS];
        final int[] scoutRanges = new int[MOST_SCOUTS];
        int lightCount = 0;
        final int[] lightCells = new int[MOST_LIGHTS];
        final int[] lightRadii = new int[MOST_LIGHTS];
        final int[] lightOils = new int[MOST_LIGHTS];
        int fogTime = FIRST_FOG_TIME;
        int turns = 0;
        final Memory[] memories = {new Memory(), new Memory()};

        void copyFrom(State other) {
            copy(other.heights, heights);
            copy(other.walls, walls);
            scoutCount = other.scoutCount;
            copy(other.scoutSides, scoutSides);
            copy(other.scoutCells, scoutCells);
            copy(other.scoutRanges, scoutRanges);
            lightCount = other.lightCount;
            copy(other.lightCells, lightCells);
            copy(other.lightRadii, lightRadii);
            copy(other.lightOils, lightOils);
            fogTime = other.fogTime;
            turns = other.turns;
            for (int side = 0; side < SIDES; side++) {
                memories[side].copyFrom(other.memories[side]);
            }
        }

        int scoutIn(int cell) {
            for (int scout = 0; scout < scoutCount; scout++) {
                if (scoutCells[scout] == cell) {
                    return scout;
                }
            }
            return NONE;
        }

        boolean isFree(int cell) {
            return walls[cell] == 0 && scoutIn(cell) == NONE;
        }

        int scoutsOf(int side) {
            int scouts = 0;
            for (int scout = 0; scout < scoutCount; scout++) {
                if (scoutSides[scout] == side) {
                    scouts |= bitOf(scout);
                }
            }
            return scouts;
        }

        void putScout(int side, int cell, int range) {
            scoutSides[scoutCount] = side;
            scoutCells[scoutCount] = cell;
            scoutRanges[scoutCount] = range;
            scoutCount++;
        }

        void dropScout(int scout) {
            closeGap(scoutSides, scout, scoutCount);
            closeGap(scoutCells, scout, scoutCount);
            closeGap(scoutRanges, scout, scoutCount);
            scoutCount--;
        }

        void putLight(int cell, int radius, int oil) {
            lightCells[lightCount] = cell;
            lightRadii[lightCount] = radius;
            lightOils[lightCount] = oil;
            lightCount++;
        }

        void dropLight(int light) {
            closeGap(lightCells, light, lightCount);
            closeGap(lightRadii, light, lightCount);
            closeGap(lightOils, light, lightCount);
            lightCount--;
        }

        int countBurning() {
            int burning = 0;
            for (int light = 0; light < lightCount; light++) {
                if (lightOils[light] > 0) {
                    burning++;
                }
            }
            return burning;
        }

        /** Burns the oil of a turn, and answers how many lights went out. */
        int burn() {
            int before = countBurning();
            for (int light = 0; light < lightCount; light++) {
                if (lightOils[light] > 0) {
                    lightOils[light]--;
                }
            }
            return before - countBurning();
        }

        boolean isLit(int cell) {
            for (int light = 0; light < lightCount; light++) {
                if (lightOils[light] > 0 && distanceOf(lightCells[light], cell) <= lightRadii[light]) {
                    return true;
                }
            }
            return false;
        }

        void fade() {
            for (int side = 0; side < SIDES; side++) {
                memories[side].fade();
            }
        }

        void changeFogTime(int turns) {
            fogTime = turns;
            for (int side = 0; side < SIDES; side++) {
                memories[side].limit(turns);
            }
        }

        void remember(Sight sight) {
            for (int side = 0; side < SIDES; side++) {
                int scouts = scoutsOf(side);
                for (int cell = 0; cell < CELLS; cell++) {
                    if (sight.isSeen(cell, scouts)) {
                        rememberCell(side, cell);
                    }
                }
            }
        }

        private void rememberCell(int side, int cell) {
            Memory memory = memories[side];
            int scout = scoutIn(cell);
            memory.turnsLeft[cell] = fogTime;
            memory.heights[cell] = heights[cell];
            memory.walls[cell] = walls[cell];
            memory.enemies[cell] = scout != NONE && scoutSides[scout] != side ? 1 : 0;
        }
    }

    /** What one side knows of each cell; only what has turns left counts. */
    private static final class Memory {
        final int[] turnsLeft = new int[CELLS];
        final int[] heights = new int[CELLS];
        final int[] walls = new int[CELLS];
        final int[] enemies = new int[CELLS];

        void copyFrom(Memory other) {
            copy(other.turnsLeft, turnsLeft);
            copy(other.heights, heights);
            copy(other.walls, walls);
            copy(other.enemies, enemies);
        }

        void fade() {
            for (int cell = 0; cell < CELLS; cell++) {
                turnsLeft[cell] = Math.max(0, turnsLeft[cell] - 1);
            }
        }

        void limit(int turns) {
            for (int cell = 0; cell < CELLS; cell++) {
                turnsLeft[cell] = Math.min(turnsLeft[cell], turns);
            }
        }

        int countNotFogged() {
            int cells = 0;
            for (int cell = 0; cell < CELLS; cell++) {
                if (turnsLeft[cell] > 0) {
                    cells++;
                }
            }
            return cells;
        }

        boolean canStep(int from, int to) {
            return turnsLeft[to] > 0 && walls[to] == 0 && enemies[to] == 0
                    && Math.abs(heights[from] - heights[to]) <= MOST_CLIMB;
        }
    }

    /** What is lit and seen now; it follows from the state alone, and is kept to spare the lines. */
    private static final class Sight {
        final int[] lit = new int[CELLS];
        /** For each cell the set of the scouts that see it. */
        final int[] watchers = new int[CELLS];

        void refresh(State state) {
            for (int cell = 0; cell < CELLS; cell++) {
                lit[cell] = state.isLit(cell) ? 1 : 0;
                watchers[cell] = 0;
                for (int scout = 0; scout < state.scoutCount; scout++) {
                    if (canSee(state, state.scoutCells[scout], state.scoutRanges[scout], cell)) {
                        watchers[cell] |= bitOf(scout);
                    }
                }
            }
        }

        private boolean canSee(State state, int from, int range, int cell) {
            int reach = lit[cell] == 1 ? 2 * range : range;
            return distanceOf(from, cell) <= reach && isViewFree(state, from, cell);
        }

        int countSeenFrom(State state, int from, int range) {
            int cells = 0;
            for (int cell = 0; cell < CELLS; cell++) {
                if (canSee(state, from, range, cell)) {
                    cells++;
                }
            }
            return cells;
        }

        boolean isSeen(int cell, int scouts) {
            return (watchers[cell] & scouts) != 0;
        }

        int countSeen(int scouts) {
            int cells = 0;
            for (int cell = 0; cell < CELLS; cell++) {
                if (isSeen(cell, scouts)) {
                    cells++;
                }
            }
            return cells;
        }

        int countLit() {
            int cells = 0;
            for (int cell = 0; cell < CELLS; cell++) {
                cells += lit[cell];
            }
            return cells;
        }

        static boolean isViewFree(State state, int from, int to) {
            int distance = distanceOf(from, to);
            int eye = 2 * state.heights[from] + 1;
            int goal = 2 * state.heights[to] + 1;
            for (int i = 1; i < distance; i++) {
                int cell = innerCell(from, to, distance, i);
                int top = 2 * state.heights[cell] + WALL_TOP * state.walls[cell];
                int sight = (eye * (distance - i) + goal * i) / distance;
                if (top > sight) {
                    return false;
                }
            }
            return true;
        }

        private static int innerCell(int from, int to, int distance, int i) {
            int across = part(i * (columnOf(to) - columnOf(from)), distance);
            int down = part(i * (rowOf(to) - rowOf(from)), distance);
            return cellAt(columnOf(from) + across, rowOf(from) + down);
        }

        /** The document's q; only lines with inner cells ask for it, so the distance is not 0. */
        private static int part(int x, int distance) {
            return Math.floorDiv(2 * x + distance, 2 * distance);
        }
    }

    /** The latest states, of which a new one takes the place of the oldest one. */
    private static final class History {
        final State[] states = new State[MOST_STATES];
        int size = 0;
        int next = 0;

        History() {
            for (int i = 0; i < MOST_STATES; i++) {
                states[i] = new State();
            }
        }

        void keep(State state) {
            states[next].copyFrom(state);
            next = (next + 1) % MOST_STATES;
            size = Math.min(size + 1, MOST_STATES);
        }

        /** Asks for a size greater than 0. */
        void restore(State state) {
            next = (next + MOST_STATES - 1) % MOST_STATES;
            size--;
            state.copyFrom(states[next]);
        }
    }

    /** The text, and what it tells of the cells. */
    private static final class Text {
        private static final int UNTOLD = -1;
        private static final int WALL = 10;

        final int[] characters = new int[MOST_CHARACTERS];
        int length = 0;
        final int[] told = new int[CELLS];

        void put(int character) {
            characters[length] = character;
            length++;
        }

        /** Answers the number of rows, or the error; what the cells are told stays in the row told. */
        int read(State state) {
            Arrays.fill(told, UNTOLD);
            int column = 0;
            int row = 0;
            for (int i = 0; i < length; i++) {
                int character = characters[i];
                if (character == ' ') {
                    continue;
                }
                if (row >= ROWS) {
                    return TEXT_ERROR - i;
                }
                if (character == ';') {
                    row++;
                    column = 0;
                } else {
                    if (!isAllowed(state, character, column, row)) {
                        return TEXT_ERROR - i;
                    }
                    told[cellAt(column, row)] = character == '#' ? WALL : character - '0';
                    column++;
                }
            }
            return column > 0 ? TEXT_ERROR - length : row;
        }

        private static boolean isAllowed(State state, int character, int column, int row) {
            if (column >= COLUMNS) {
                return false;
            }
            if (character == '#') {
                return state.scoutIn(cellAt(column, row)) == NONE;
            }
            return isWithin(character, '0', '9');
        }

        void tellTo(State state) {
            for (int cell = 0; cell < CELLS; cell++) {
                if (told[cell] == WALL) {
                    state.walls[cell] = 1;
                } else if (told[cell] != UNTOLD) {
                    state.walls[cell] = 0;
                    state.heights[cell] = told[cell];
                }
            }
        }
    }

    /** Shortest ways over what a side knows. */
    private static final class Ways {
        private static final int UNREACHED = -1;

        final int[] steps = new int[CELLS];
        final int[] queue = new int[CELLS];
        int queued = 0;

        int shortest(Memory memory, int from, int to) {
            Arrays.fill(steps, UNREACHED);
            queued = 0;
            reach(from, 0);
            for (int i = 0; i < CELLS && steps[to] == UNREACHED; i++) {
                if (i >= queued) {
                    return NONE;
                }
                reachNeighbors(memory, queue[i]);
            }
            return steps[to] == UNREACHED ? NONE : steps[to];
        }

        private void reachNeighbors(Memory memory, int from) {
            for (int down = -1; down <= 1; down++) {
                for (int across = -1; across <= 1; across++) {
                    int column = columnOf(from) + across;
                    int row = rowOf(from) + down;
                    if (isCell(column, row) && memory.canStep(from, cellAt(column, row))) {
                        reach(cellAt(column, row), steps[from] + 1);
                    }
                }
            }
        }

        /** Each cell is reached once at most, so the queue never holds more than all cells. */
        private void reach(int cell, int count) {
            if (steps[cell] == UNREACHED && queued < CELLS) {
                steps[cell] = count;
                queue[queued] = cell;
                queued++;
            }
        }
    }
}
