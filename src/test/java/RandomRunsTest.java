import java.util.ArrayList;
import java.util.List;
import java.util.Random;

/** Random runs of at most 512 calls, each answer compared with the reference's. */
public final class RandomRunsTest {
    private static final int RUNS = 1500;
    private static final int[] STRANGE = {-1, -2, Integer.MIN_VALUE, Integer.MAX_VALUE, 12, 10, 256, 100};

    private final Random random;
    private final FogMap map = new FogMap();
    private final Reference reference = new Reference();
    private final List<Call> run = new ArrayList<>();

    private RandomRunsTest(int seed) {
        random = new Random(seed);
    }

    public static void main(String[] args) {
        for (int seed = 0; seed < RUNS && Checks.allPassed(); seed++) {
            new RandomRunsTest(seed).compare(seed);
        }
        Checks.close("RandomRunsTest");
    }

    private void compare(int seed) {
        int length = 20 + random.nextInt(Snapshot.MOST_CALLS - 19);
        while (run.size() < length && Checks.allPassed()) {
            if (random.nextInt(40) == 0) {
                writeText(length);
            } else {
                make(seed, next());
            }
        }
        // A whole snapshot takes several new objects with short runs only.
        if (length <= 300) {
            Checks.equal("all answers after the run of seed " + seed, Snapshot.of(reference), Snapshot.after(run));
        }
    }

    private void make(int seed, Call call) {
        run.add(call);
        String what = "seed " + seed + ", call " + run.size() + ", " + call;
        Checks.equal(what, call.on(reference), call.on(map));
    }

    private void writeText(int length) {
        int rows = random.nextInt(11);
        StringBuilder text = new StringBuilder();
        for (int row = 0; row < rows; row++) {
            int cells = random.nextInt(random.nextInt(20) == 0 ? 14 : 13);
            for (int cell = 0; cell < cells; cell++) {
                text.append(random.nextInt(5) == 0 ? '#' : (char) ('0' + random.nextInt(10) / 2));
            }
            text.append(random.nextInt(30) == 0 ? "" : random.nextInt(10) == 0 ? " ; " : ";");
        }
        if (random.nextInt(8) == 0) {
            text.insert(random.nextInt(text.length() + 1), (char) (1 + random.nextInt(255)));
        }
        for (int i = 0; i < text.length() && run.size() + 1 < length; i++) {
            make(0, Call.of("append", text.charAt(i)));
        }
        make(0, Call.of("load"));
    }

    private Call next() {
        int kind = random.nextInt(100);
        if (kind < 55) {
            return nextAction(kind);
        }
        return nextQuestion(kind - 55);
    }

    private Call nextAction(int kind) {
        if (kind < 6) {
            return Call.of("setHeight", column(), row(), number(0, 9));
        } else if (kind < 9) {
            return Call.of("setWall", column(), row(), number(0, 1));
        } else if (kind < 18) {
            return Call.of("addScout", number(0, 1), column(), row(), number(1, 8));
        } else if (kind < 34) {
            return Call.of("step", scout(), number(-1, 1), number(-1, 1));
        } else if (kind < 36) {
            return Call.of("removeScout", scout());
        } else if (kind < 40) {
            return Call.of("addLight", column(), row(), number(0, 4), oil());
        } else if (kind < 42) {
            return Call.of("setOil", number(0, 5), oil());
        } else if (kind < 43) {
            return Call.of("removeLight", number(0, 5));
        } else if (kind < 45) {
            return Call.of("setFogTime", random.nextInt(6) == 0 ? number(1, 99) : number(1, 12));
        } else if (kind < 51) {
            return Call.of("pass", random.nextInt(12) == 0 ? number(1, 99) : number(1, 4));
        } else if (kind < 53) {
            return Call.of("undo");
        }
        return kind == 53 ? Call.of("load") : Call.of("append", number(1, 255));
    }

    private Call nextQuestion(int kind) {
        if (kind < 8) {
            return Call.of("count", number(0, 11));
        } else if (kind < 12) {
            return Call.of("cell", column(), row(), number(0, 3));
        } else if (kind < 17) {
            return Call.of("scout", scout(), number(0, 5));
        } else if (kind < 19) {
            return Call.of("light", number(0, 5), number(0, 3));
        } else if (kind < 27) {
            return Call.of("known", number(0, 1), column(), row(), number(0, 4));
        } else if (kind < 31) {
            return Call.of("view", column(), row(), column(), row());
        } else if (kind < 37) {
            return Call.of("way", scout(), column(), row());
        } else if (kind < 40) {
            return Call.of("lookout", scout(), random.nextInt(4) == 0 ? number(0, 11) : number(0, 2));
        } else if (kind < 44) {
            return Call.of("alone", scout());
        }
        return Call.of("clearText");
    }

    private int column() {
        return number(0, 11);
    }

    private int row() {
        return number(0, 9);
    }

    private int scout() {
        return number(0, 9);
    }

    private int oil() {
        return random.nextInt(2) == 0 ? number(0, 50) : number(0, 5);
    }

    private int number(int least, int most) {
        if (random.nextInt(60) == 0) {
            return random.nextBoolean() ? STRANGE[random.nextInt(STRANGE.length)] : most + 1 - random.nextInt(2) * (most + 2 - least);
        }
        return least + random.nextInt(most - least + 1);
    }
}
