import java.util.ArrayDeque;
import java.util.ArrayList;
import java.util.Deque;
import java.util.HashMap;
import java.util.HashSet;
import java.util.List;
import java.util.Map;
import java.util.Set;

/**
 * The document once more, as slow and as near to its words as it goes: nothing is kept that can be
 * worked out, states are whole copies, and cells are objects.
 */
final class Reference {
    private static final int INVALID = -11;
    private static final int ILLEGAL = -12;
    private static final int FULL = -13;
    private static final int NONE = -19;

    private record Cell(int column, int row) {
        boolean exists() {
            return column >= 0 && column <= 11 && row >= 0 && row <= 9;
        }

        int distance(Cell other) {
            return Math.max(Math.abs(column - other.column), Math.abs(row - other.row));
        }
    }

    private record Scout(int side, Cell cell, int range) {
    }

    private record Light(Cell cell, int radius, int oil) {
    }

    private record Seen(int memory, int height, int wall, int enemy) {
    }

    private static final class World {
        final Map<Cell, Integer> heights = new HashMap<>();
        final Set<Cell> walls = new HashSet<>();
        final List<Scout> scouts = new ArrayList<>();
        final List<Light> lights = new ArrayList<>();
        final List<Map<Cell, Seen>> memories = List.of(new HashMap<>(), new HashMap<>());
        int fogTime = 10;
        int turns = 0;

        World copy() {
            World copy = new World();
            copy.heights.putAll(heights);
            copy.walls.addAll(walls);
            copy.scouts.addAll(scouts);
            copy.lights.addAll(lights);
            copy.memories.get(0).putAll(memories.get(0));
            copy.memories.get(1).putAll(memories.get(1));
            copy.fogTime = fogTime;
            copy.turns = turns;
            return copy;
        }

        int height(Cell cell) {
            return heights.getOrDefault(cell, 0);
        }

        int scoutAt(Cell cell) {
            for (Scout scout : scouts) {
                if (scout.cell.equals(cell)) {
                    return scouts.indexOf(scout);
                }
            }
            return NONE;
        }

        boolean lit(Cell cell) {
            return lights.stream().anyMatch(l -> l.oil > 0 && l.cell.distance(cell) <= l.radius);
        }

        boolean free(Cell from, Cell to) {
            int d = from.distance(to);
            double eye = height(from) * 2 + 1;
            double goal = height(to) * 2 + 1;
            for (int i = 1; i <= d - 1; i++) {
                Cell inner = new Cell(from.column + q(i * (to.column - from.column), d),
                        from.row + q(i * (to.row - from.row), d));
                int top = height(inner) * 2 + (walls.contains(inner) ? 100 : 0);
                if (top > Math.floor((eye * (d - i) + goal * i) / d)) {
                    return false;
                }
            }
            return true;
        }

        static int q(int x, int d) {
            return (int) Math.floor((2.0 * x + d) / (2.0 * d));
        }

        boolean scoutSees(Scout scout, Cell cell) {
            int distance = scout.cell.distance(cell);
            boolean near = distance <= scout.range || lit(cell) && distance <= 2 * scout.range;
            return near && free(scout.cell, cell);
        }

        boolean sideSees(int side, Cell cell) {
            return scouts.stream().anyMatch(s -> s.side == side && scoutSees(s, cell));
        }

        boolean fogged(int side, Cell cell) {
            return !memories.get(side).containsKey(cell);
        }

        void look() {
            for (int side = 0; side <= 1; side++) {
                for (Cell cell : cells()) {
                    if (sideSees(side, cell)) {
                        int scout = scoutAt(cell);
                        int enemy = scout != NONE && scouts.get(scout).side != side ? 1 : 0;
                        memories.get(side).put(cell,
                                new Seen(fogTime, height(cell), walls.contains(cell) ? 1 : 0, enemy));
                    }
                }
            }
        }

        void limit(int less, int most) {
            for (Map<Cell, Seen> memory : memories) {
                for (Cell cell : cells()) {
                    Seen seen = memory.remove(cell);
                    if (seen != null && Math.min(seen.memory - less, most) > 0) {
                        memory.put(cell, new Seen(Math.min(seen.memory - less, most), seen.height, seen.wall, seen.enemy));
                    }
                }
            }
        }
    }

    private World world = new World();
    private final Deque<World> history = new ArrayDeque<>();
    private String text = "";

    private static List<Cell> cells() {
        List<Cell> cells = new ArrayList<>();
        for (int column = 0; column <= 11; column++) {
            for (int row = 0; row <= 9; row++) {
                cells.add(new Cell(column, row));
            }
        }
        return cells;
    }

    private static boolean in(int value, int least, int most) {
        return least <= value && value <= most;
    }

    private boolean isScout(int scout) {
        return in(scout, 0, world.scouts.size() - 1);
    }

    private boolean isLight(int light) {
        return in(light, 0, world.lights.size() - 1);
    }

    private void record() {
        history.addLast(world.copy());
        if (history.size() > 5) {
            history.removeFirst();
        }
    }

    int setHeight(int column, int row, int height) {
        Cell cell = new Cell(column, row);
        if (!cell.exists() || !in(height, 0, 9)) {
            return INVALID;
        }
        record();
        int previous = world.height(cell);
        world.heights.put(cell, height);
        world.look();
        return previous;
    }

    int setWall(int column, int row, int wall) {
        Cell cell = new Cell(column, row);
        if (!cell.exists() || !in(wall, 0, 1)) {
            return INVALID;
        }
        if (wall == 1 && world.scoutAt(cell) != NONE) {
            return ILLEGAL;
        }
        record();
        boolean changed = wall == 1 ? world.walls.add(cell) : world.walls.remove(cell);
        world.look();
        return changed ? 1 - wall : wall;
    }

    int append(int character) {
        if (!in(character, 1, 255)) {
            return INVALID;
        }
        if (text.length() == 120) {
            return FULL;
        }
        text += (char) character;
        return text.length();
    }

    int clearText() {
        int length = text.length();
        text = "";
        return length;
    }

    int load() {
        World told = world.copy();
        int rows = 0;
        int cells = 0;
        for (int at = 0; at < text.length(); at++) {
            char sign = text.charAt(at);
            if (sign == ' ') {
                continue;
            }
            Cell cell = new Cell(cells, rows);
            boolean isCell = rows < 10 && cells < 12;
            if (rows < 10 && sign == ';') {
                rows++;
                cells = 0;
            } else if (isCell && "0123456789".indexOf(sign) >= 0) {
                told.heights.put(cell, "0123456789".indexOf(sign));
                told.walls.remove(cell);
                cells++;
            } else if (isCell && sign == '#' && world.scoutAt(cell) == NONE) {
                told.walls.add(cell);
                cells++;
            } else {
                return -1000 - at;
            }
        }
        if (cells != 0) {
            return -1000 - text.length();
        }
        record();
        world = told;
        text = "";
        world.look();
        return rows;
    }

    int addScout(int side, int column, int row, int range) {
        Cell cell = new Cell(column, row);
        if (!in(side, 0, 1) || !cell.exists() || !in(range, 1, 8)) {
            return INVALID;
        }
        if (world.walls.contains(cell) || world.scoutAt(cell) != NONE) {
            return ILLEGAL;
        }
        if (world.scouts.size() == 10) {
            return FULL;
        }
        record();
        world.scouts.add(new Scout(side, cell, range));
        world.look();
        return world.scouts.size() - 1;
    }

    int step(int scout, int across, int down) {
        if (!isScout(scout) || !in(across, -1, 1) || !in(down, -1, 1) || across == 0 && down == 0) {
            return INVALID;
        }
        Scout old = world.scouts.get(scout);
        Cell to = new Cell(old.cell.column + across, old.cell.row + down);
        if (!to.exists() || world.walls.contains(to) || world.scoutAt(to) != NONE) {
            return ILLEGAL;
        }
        if (Math.abs(world.height(to) - world.height(old.cell)) > 2) {
            return ILLEGAL;
        }
        record();
        List<Cell> fogged = cells().stream().filter(cell -> world.fogged(old.side, cell)).toList();
        world.scouts.set(scout, new Scout(old.side, to, old.range));
        world.look();
        return (int) fogged.stream().filter(cell -> world.sideSees(old.side, cell)).count();
    }

    int removeScout(int scout) {
        if (!isScout(scout)) {
            return INVALID;
        }
        record();
        world.scouts.remove(scout);
        world.look();
        return world.scouts.size();
    }

    int addLight(int column, int row, int radius, int oil) {
        Cell cell = new Cell(column, row);
        if (!cell.exists() || !in(radius, 0, 4) || !in(oil, 0, 50)) {
            return INVALID;
        }
        if (world.lights.size() == 6) {
            return FULL;
        }
        record();
        world.lights.add(new Light(cell, radius, oil));
        world.look();
        return world.lights.size() - 1;
    }

    int setOil(int light, int oil) {
        if (!isLight(light) || !in(oil, 0, 50)) {
            return INVALID;
        }
        record();
        Light old = world.lights.get(light);
        world.lights.set(light, new Light(old.cell, old.radius, oil));
        world.look();
        return old.oil;
    }

    int removeLight(int light) {
        if (!isLight(light)) {
            return INVALID;
        }
        record();
        world.lights.remove(light);
        world.look();
        return world.lights.size();
    }

    int setFogTime(int turns) {
        if (!in(turns, 1, 99)) {
            return INVALID;
        }
        record();
        int previous = world.fogTime;
        world.fogTime = turns;
        world.limit(0, turns);
        world.look();
        return previous;
    }

    int pass(int turns) {
        if (!in(turns, 1, 99)) {
            return INVALID;
        }
        record();
        int out = 0;
        for (int turn = 1; turn <= turns; turn++) {
            for (int i = 0; i < world.lights.size(); i++) {
                Light light = world.lights.get(i);
                if (light.oil > 0) {
                    world.lights.set(i, new Light(light.cell, light.radius, light.oil - 1));
                    out += light.oil == 1 ? 1 : 0;
                }
            }
            world.limit(1, 99);
            world.turns++;
            world.look();
        }
        return out;
    }

    int undo() {
        if (history.isEmpty()) {
            return ILLEGAL;
        }
        world = history.removeLast();
        return history.size();
    }

    int count(int what) {
        return switch (what) {
            case 0 -> world.scouts.size();
            case 1 -> world.lights.size();
            case 2 -> (int) world.lights.stream().filter(light -> light.oil > 0).count();
            case 3 -> (int) cells().stream().filter(world::lit).count();
            case 4 -> world.fogTime;
            case 5 -> world.turns;
            case 6, 7 -> (int) cells().stream().filter(cell -> world.sideSees(what - 6, cell)).count();
            case 8, 9 -> (int) cells().stream().filter(cell -> !world.fogged(what - 8, cell)).count();
            case 10 -> history.size();
            case 11 -> text.length();
            default -> INVALID;
        };
    }

    int cell(int column, int row, int what) {
        Cell cell = new Cell(column, row);
        if (!cell.exists() || !in(what, 0, 3)) {
            return INVALID;
        }
        return switch (what) {
            case 0 -> world.height(cell);
            case 1 -> world.walls.contains(cell) ? 1 : 0;
            case 2 -> world.lit(cell) ? 1 : 0;
            default -> world.scoutAt(cell);
        };
    }

    int scout(int scout, int what) {
        if (!isScout(scout) || !in(what, 0, 5)) {
            return INVALID;
        }
        Scout it = world.scouts.get(scout);
        return switch (what) {
            case 0 -> it.side;
            case 1 -> it.cell.column;
            case 2 -> it.cell.row;
            case 3 -> it.range;
            case 4 -> (int) cells().stream().filter(cell -> world.scoutSees(it, cell)).count();
            default -> world.sideSees(1 - it.side, it.cell) ? 1 : 0;
        };
    }

    int light(int light, int what) {
        if (!isLight(light) || !in(what, 0, 3)) {
            return INVALID;
        }
        Light it = world.lights.get(light);
        return List.of(it.cell.column, it.cell.row, it.radius, it.oil).get(what);
    }

    int known(int side, int column, int row, int what) {
        Cell cell = new Cell(column, row);
        if (!in(side, 0, 1) || !cell.exists() || !in(what, 0, 4)) {
            return INVALID;
        }
        if (what == 4) {
            return world.sideSees(side, cell) ? 1 : 0;
        }
        Seen seen = world.memories.get(side).get(cell);
        if (seen == null) {
            return what == 0 ? 0 : NONE;
        }
        return List.of(seen.memory, seen.height, seen.wall, seen.enemy).get(what);
    }

    int view(int column, int row, int column2, int row2) {
        Cell from = new Cell(column, row);
        Cell to = new Cell(column2, row2);
        if (!from.exists() || !to.exists()) {
            return INVALID;
        }
        return world.free(from, to) ? 1 : 0;
    }

    int way(int scout, int column, int row) {
        Cell to = new Cell(column, row);
        if (!isScout(scout) || !to.exists()) {
            return INVALID;
        }
        Scout it = world.scouts.get(scout);
        Map<Cell, Seen> memory = world.memories.get(it.side);
        Set<Cell> reached = new HashSet<>(Set.of(it.cell));
        for (int steps = 0; steps <= 120; steps++) {
            if (reached.contains(to)) {
                return steps;
            }
            Set<Cell> next = new HashSet<>(reached);
            for (Cell from : reached) {
                for (Map.Entry<Cell, Seen> entry : memory.entrySet()) {
                    Seen seen = entry.getValue();
                    boolean open = seen.wall == 0 && seen.enemy == 0;
                    if (entry.getKey().distance(from) == 1 && open
                            && Math.abs(seen.height - memory.get(from).height) <= 2) {
                        next.add(entry.getKey());
                    }
                }
            }
            reached = next;
        }
        return NONE;
    }

    int lookout(int scout, int distance) {
        if (!isScout(scout) || !in(distance, 0, 11)) {
            return INVALID;
        }
        Scout it = world.scouts.get(scout);
        int best = NONE;
        long most = -1;
        for (Cell cell : cells()) {
            int there = world.scoutAt(cell);
            boolean taken = there != NONE && there != scout;
            if (!taken && !world.walls.contains(cell) && cell.distance(it.cell) <= distance) {
                Scout moved = new Scout(it.side, cell, it.range);
                long seen = cells().stream().filter(c -> world.scoutSees(moved, c)).count();
                if (seen > most) {
                    most = seen;
                    best = 100 * cell.column + cell.row;
                }
            }
        }
        return best;
    }

    int alone(int scout) {
        if (!isScout(scout)) {
            return INVALID;
        }
        Scout it = world.scouts.get(scout);
        return (int) cells().stream().filter(cell -> world.scoutSees(it, cell)
                && world.scouts.stream().noneMatch(s -> s != it && s.side == it.side && world.scoutSees(s, cell)))
                .count();
    }
}
