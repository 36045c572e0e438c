import java.util.Random;

/**
 * Runs of calls, most of them sensible and some wrong, answered by MazeDesk as by PlainDesk. An object
 * is called 512 times: what is left of these at the end goes into looking at one side of the maze.
 */
public final class ModelTest {
    private static final int RUNS = 1200;
    private static final int CALLS = 300;
    private static final int[] ODD = {-1, -2, 4, 5, 12, 143, 144, 145, 1000, Integer.MIN_VALUE, Integer.MAX_VALUE};

    private final Checks checks;
    private final Random random;
    private final Desk desk;
    private final PlainDesk plain;
    private final int width;
    private final int height;
    private final int sideToLookAt;
    private final StringBuilder told = new StringBuilder();

    private ModelTest(Checks checks, int run) {
        this.checks = checks;
        random = new Random(run);
        sideToLookAt = run / 3 % 3;
        int longest = run % 3 == 0 ? 12 : run % 3 == 1 ? 4 : 6;
        width = 1 + random.nextInt(longest);
        height = 1 + random.nextInt(longest);
        int wrapped = random.nextInt(4);
        told.append("run ").append(run).append(": new(").append(width).append(", ").append(height)
                .append(", ").append(wrapped).append(")");
        desk = new Desk(width, height, wrapped);
        plain = new PlainDesk(width, height, wrapped);
    }

    public static void main(String[] args) {
        Checks checks = new Checks();
        for (int run = 0; run < RUNS && checks.wrong() == 0; run++) {
            new ModelTest(checks, run).play();
        }
        checks.end();
    }

    private void play() {
        cutSome();
        make();
        while (desk.callsLeft() > Desk.MOST_CALLS - CALLS && checks.wrong() == 0) {
            callSomething();
        }
        lookAtOneSide();
        if (checks.wrong() != 0) {
            System.out.println(told);
        }
    }

    private void same(String call, long want, long got) {
        told.append("\n  ").append(call).append(" = ").append(got);
        checks.due(call, want, got);
    }

    private void same(String call, boolean want, boolean got) {
        same(call, want ? 1 : 0, got ? 1 : 0);
    }

    private int cell() {
        return random.nextInt(15) == 0 ? odd() : random.nextInt(width * height);
    }

    private int direction() {
        return random.nextInt(20) == 0 ? odd() : random.nextInt(4);
    }

    private int keyNumber() {
        return random.nextInt(12) == 0 ? odd() : random.nextInt(4);
    }

    private int odd() {
        return ODD[random.nextInt(ODD.length)];
    }

    private void cutSome() {
        int howMany = random.nextInt(3) == 0 ? random.nextInt(width * height) / 2 : 0;
        for (int i = 0; i < howMany; i++) {
            cut(true);
        }
    }

    private void cut(boolean is) {
        int cell = cell();
        same("cut(" + cell + ", " + is + ")", plain.cut(cell, is), desk.cut(cell, is));
    }

    /** Tries some roots, so that most runs have a maze even where the board is in parts. */
    private void make() {
        int got = 0;
        for (int i = 0; i < 8 && got != 1; i++) {
            int seed = random.nextInt();
            int root = cell();
            got = desk.make(seed, root);
            same("make(" + seed + ", " + root + ")", plain.make(seed, root), got);
            if (got == 0 && random.nextBoolean()) {
                cut(false);
            }
        }
    }

    private void callSomething() {
        int kind = random.nextInt(100);
        if (kind < 30) {
            changeMaze(random.nextInt(6));
        } else if (kind < 60) {
            move();
        } else if (kind < 96) {
            ask(random.nextInt(12));
        } else if (kind < 99) {
            placeKeys();
        } else if (random.nextInt(2) == 0) {
            cut(random.nextBoolean());
            make();
        }
    }

    private void changeMaze(int kind) {
        int cell = cell();
        int d = direction();
        int k = keyNumber();
        String at = cell + ", " + d + ")";
        switch (kind) {
            case 0:
                boolean is = random.nextInt(3) > 0;
                same("open(" + cell + ", " + d + ", " + is + ")", plain.open(cell, d, is), desk.open(cell, d, is));
                break;
            case 1:
                same("key(" + k + ", " + cell + ")", plain.key(k, cell), desk.key(k, cell));
                break;
            case 2:
                same("door(" + k + ", " + at, plain.door(k, cell, d), desk.door(k, cell, d));
                break;
            case 3:
                same("oneWay(" + at, plain.oneWay(cell, d), desk.oneWay(cell, d));
                break;
            case 4:
                same("exit(" + cell + ")", plain.exit(cell), desk.exit(cell));
                break;
            default:
                int n = random.nextInt(4) - 1;
                same("braid(" + n + ")", plain.braid(n), desk.braid(n));
                break;
        }
    }

    private void move() {
        int kind = random.nextInt(40);
        if (kind == 0) {
            int cell = cell();
            same("start(" + cell + ")", plain.start(cell), desk.start(cell));
        } else if (kind == 1) {
            same("again()", plain.again(), desk.again());
        } else {
            int d = direction();
            same("walk(" + d + ")", plain.walk(d), desk.walk(d));
            int what = random.nextInt(20) == 0 ? odd() : random.nextInt(3);
            same("player(" + what + ")", plain.player(what), desk.player(what));
        }
    }

    private void ask(int kind) {
        int cell = cell();
        switch (kind) {
            case 0:
                same("top(" + cell + ")", plain.top(cell), desk.top(cell));
                break;
            case 1:
                same("popped(" + cell + ")", plain.popped(cell), desk.popped(cell));
                break;
            case 2:
                same("circles()", plain.circles(), desk.circles());
                break;
            case 3:
                same("trees()", plain.trees(), desk.trees());
                break;
            case 4:
                int d = direction();
                same("passage(" + cell + ", " + d + ")", plain.passage(cell, d), desk.passage(cell, d));
                break;
            case 5:
                same("deadEnds()", plain.deadEnds(), desk.deadEnds());
                break;
            case 6:
                same("escape()", plain.escape(), desk.escape());
                break;
            case 7:
                int i = random.nextInt(10) == 0 ? odd() : random.nextInt(8);
                same("step(" + i + ")", plain.step(i), desk.step(i));
                break;
            default:
                int b = random.nextInt(10) == 0 ? odd() : random.nextInt((2 * width + 2) * (2 * height + 1) + 2);
                same("drawing(" + b + ")", plain.drawing(b), desk.drawing(b));
                break;
        }
    }

    private void placeKeys() {
        int seed = random.nextInt();
        same("placeKeys(" + seed + ")", plain.placeKeys(seed), desk.placeKeys(seed));
        same("escape()", plain.escape(), desk.escape());
    }

    private void lookAtOneSide() {
        lookAtSteps();
        if (sideToLookAt == 0) {
            lookAtDrawing();
        } else if (sideToLookAt == 1) {
            lookAtPassages();
        } else {
            lookAtStacks();
        }
    }

    private void lookAtSteps() {
        int steps = plain.escape();
        same("escape()", steps, desk.escape());
        for (int i = -1; i <= steps + 1 && desk.callsLeft() > 0; i++) {
            same("step(" + i + ")", plain.step(i), desk.step(i));
        }
    }

    private void lookAtPassages() {
        int first = random.nextInt(width * height);
        for (int i = 0; i < width * height && desk.callsLeft() >= 4; i++) {
            int cell = (first + i) % (width * height);
            for (int d = 0; d < 4; d++) {
                same("passage(" + cell + ", " + d + ")", plain.passage(cell, d), desk.passage(cell, d));
            }
        }
    }

    private void lookAtStacks() {
        int first = random.nextInt(width * height);
        for (int i = 0; i < width * height && desk.callsLeft() >= 2; i++) {
            int cell = (first + i) % (width * height);
            same("top(" + cell + ")", plain.top(cell), desk.top(cell));
            same("popped(" + cell + ")", plain.popped(cell), desk.popped(cell));
        }
    }

    private void lookAtDrawing() {
        int bytes = (2 * width + 2) * (2 * height + 1);
        int first = random.nextInt(bytes);
        for (int i = 0; i < bytes && desk.callsLeft() > 0; i++) {
            int b = (first + i) % bytes;
            same("drawing(" + b + ")", plain.drawing(b), desk.drawing(b));
        }
    }
}
