import java.lang.reflect.InvocationTargetException;
import java.lang.reflect.Method;
import java.util.ArrayList;
import java.util.Comparator;
import java.util.List;

/** Runs each method that is marked as the test of an edge, and says which sentences do not hold. */
abstract class Edges {
    static final int NONE = MazeDesk.NONE;
    static final int UP = 0;
    static final int RIGHT = 1;
    static final int DOWN = 2;
    static final int LEFT = 3;

    static final int LEAST = Integer.MIN_VALUE;
    static final int MOST = Integer.MAX_VALUE;

    /** Of these there is no cell, direction, key, byte or step; NONE is not among them. */
    static final int[] FAR_OFF = {-2, -3, -4, 1000, 1 << 29, 1 << 30, (1 << 30) + 1, LEAST, LEAST + 1, MOST};
    static final int[] NO_DIRECTIONS = {-1, -2, -4, 4, 5, 8, LEAST, LEAST + 1, MOST};
    /** -1 is none of them either, but is a word for "none" in some calls. */
    static final int[] NO_KEYS = {-2, -3, 4, 5, 31, 32, LEAST, MOST};
    static final int[] SEEDS = {0, 1, -1, 2, 7, 65535, 65536, -65536, 123456789, -987654321, MOST, LEAST, LEAST + 1};

    private final Checks checks = new Checks();

    final void run() {
        List<Method> tests = new ArrayList<>();
        for (Method method : getClass().getDeclaredMethods()) {
            if (method.isAnnotationPresent(Edge.class)) {
                tests.add(method);
            }
        }
        tests.sort(Comparator.comparingInt((Method m) -> m.getAnnotation(Edge.class).of()).thenComparing(Method::getName));
        for (Method test : tests) {
            runOne(test);
        }
        System.out.println(tests.size() + " edges");
        checks.end();
    }

    private void runOne(Method test) {
        int wrongBefore = checks.wrong();
        int madeBefore = checks.made();
        try {
            test.invoke(this);
        } catch (InvocationTargetException e) {
            checks.fail("threw " + e.getCause());
        } catch (IllegalAccessException e) {
            checks.fail("could not be called");
        }
        if (checks.made() == madeBefore) {
            checks.fail("checks nothing");
        }
        if (checks.wrong() != wrongBefore) {
            Edge edge = test.getAnnotation(Edge.class);
            String where = edge.of() == 0 ? "Before the promises" : "Promise " + edge.of();
            System.out.println("FAILED EDGE " + test.getName() + ". " + where + ": \"" + edge.says() + "\"");
        }
    }

    final void due(String what, long want, long got) {
        checks.due(what, want, got);
    }

    final void due(String what, boolean want, boolean got) {
        checks.due(what, want, got);
    }

    final void due(String what, String want, String got) {
        checks.due(what, want, got);
    }

    /** A desk that has no maze, with a cell that has a way in a direction. */
    record NoMaze(String name, Desk desk, int cell, int direction) {
    }

    /** In all the ways in which a desk comes to have no maze; but for the first, each has had one. */
    static List<NoMaze> desksWithoutMaze() {
        List<NoMaze> desks = new ArrayList<>();
        desks.add(new NoMaze("new", new Desk(3, 3, 3), 4, RIGHT));
        Desk cut = Desk.busy();
        cut.cut(0, true);
        desks.add(new NoMaze("after a cut", cut, 4, RIGHT));
        Desk uncut = Desk.busy();
        uncut.cut(8, false);
        desks.add(new NoMaze("after a cell is cut no more", uncut, 4, RIGHT));
        Desk apart = Desk.busy();
        apart.cutAll(1, 3);
        apart.make(7, 4);
        desks.add(new NoMaze("after make answered 0", apart, 4, RIGHT));
        Desk long5001 = PoppedBoards.desk5001();
        long5001.make(PoppedBoards.SEED_5001, PoppedBoards.NEARER_ROOT);
        long5001.make(PoppedBoards.SEED_5001, PoppedBoards.ROOT_5001);
        desks.add(new NoMaze("after make answered 2", long5001, 4, RIGHT));
        Desk refused = new Desk(3, 3, 0);
        refused.make(7, 9);
        desks.add(new NoMaze("after make answered NONE", refused, 4, RIGHT));
        return desks;
    }

    /** All calls of the document that are answered so only if there is no maze. */
    final void dueNoMaze(String name, Desk desk, int cell, int direction) {
        due(name + ": top", NONE, desk.top(cell));
        due(name + ": popped", NONE, desk.popped(cell));
        due(name + ": circles", NONE, desk.circles());
        due(name + ": passage", NONE, desk.passage(cell, direction));
        due(name + ": open", false, desk.open(cell, direction, true));
        due(name + ": close", false, desk.open(cell, direction, false));
        due(name + ": braid", NONE, desk.braid(1));
        due(name + ": deadEnds", NONE, desk.deadEnds());
        due(name + ": key", false, desk.key(0, cell));
        due(name + ": door", false, desk.door(0, cell, direction));
        due(name + ": no door", false, desk.door(NONE, cell, direction));
        due(name + ": oneWay", false, desk.oneWay(cell, direction));
        due(name + ": start", false, desk.start(cell));
        due(name + ": exit", false, desk.exit(cell));
        due(name + ": placeKeys", NONE, desk.placeKeys(1));
        due(name + ": escape", NONE, desk.escape());
        due(name + ": step", NONE, desk.step(0));
        for (int d = 0; d < 4; d++) {
            due(name + ": walk", false, desk.walk(d));
        }
        due(name + ": again", false, desk.again());
        due(name + ": player", "-1/-1/-1", desk.playerTold());
        due(name + ": drawing", NONE, desk.drawing(0));
    }

    /** The numbers that stacks and placeKeys are drawn from, in longs that do not run over. */
    static long firstX(int seed, int cell) {
        return (seed + cell * -1640531535L) & 0xFFFFFFFFL;
    }

    static long nextX(long x) {
        return (x * 1664525L + 1013904223L) & 0xFFFFFFFFL;
    }
}
