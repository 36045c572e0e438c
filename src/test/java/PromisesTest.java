/** Each promise in ordinary use. Its edges, and wrong calls, are in the tests whose names begin with EdgesOf. */
public final class PromisesTest {
    private static final int NONE = MazeDesk.NONE;
    private static final int UP = 0;
    private static final int RIGHT = 1;
    private static final int DOWN = 2;
    private static final int LEFT = 3;

    private final Checks checks = new Checks();

    public static void main(String[] args) {
        PromisesTest test = new PromisesTest();
        test.promises1And2Board();
        test.promise3Make();
        test.promises4To6Stacks();
        test.promise7Trees();
        test.promise7TreesOneByOne();
        test.promises8And9Passages();
        test.promises10And11DeadEnds();
        test.promises12To14Things();
        test.promises15And16StartAndExit();
        test.promise17PlaceKeys();
        test.promise17PlaceKeysBySeed();
        test.promise18Escape();
        test.promise19Step();
        test.promises20To22Player();
        test.promise23Drawing();
        test.checks.end();
    }

    private void due(String what, long want, long got) {
        checks.due(what, want, got);
    }

    private void due(String what, boolean want, boolean got) {
        checks.due(what, want, got);
    }

    private void due(String what, String want, String got) {
        checks.due(what, want, got);
    }

    private void promises1And2Board() {
        Desk desk = new Desk(5, 4, 1);
        due("cut", true, desk.cut(7, true) && desk.cut(12, true) && desk.cut(8, true));
        due("one of them no more", true, desk.cut(8, false));
        due("maze", 1, desk.make(2024, 0));
        for (int cell = 0; cell < 20; cell++) {
            due("cell " + cell + " is cut", cell == 7 || cell == 12, desk.waysOf(cell).isEmpty());
        }
        due("wrapped left and right", true, desk.passage(5, LEFT) != NONE && desk.passage(9, RIGHT) != NONE);
        due("not up and down", true, desk.passage(0, UP) == NONE && desk.passage(19, DOWN) == NONE);
    }

    private void promise3Make() {
        for (int seed = -20; seed < 20; seed++) {
            Desk large = new Desk(12, 12, 0);
            due("large", 1, large.make(seed * 123456789, (seed + 20) * 3));
            due("a tree has one passage less than cells", 143, openPassages(large));
        }
        Desk desk = new Desk(6, 5, 3);
        due("a maze", 1, desk.make(8, 14));
        for (int cell = 0; cell < 30; cell++) {
            desk.exit(cell);
            due("a way out to " + cell, true, desk.escape() != NONE);
        }
    }

    private static int openPassages(Desk desk) {
        int open = 0;
        for (int cell = 0; cell < 144; cell++) {
            open += desk.passage(cell, RIGHT) == 1 ? 1 : 0;
            open += desk.passage(cell, DOWN) == 1 ? 1 : 0;
        }
        return open;
    }

    private void promises4To6Stacks() {
        Desk desk = new Desk(3, 3, 0);
        desk.make(7, 4);
        int[] tops = {RIGHT, RIGHT, DOWN, RIGHT, NONE, LEFT, UP, RIGHT, UP};
        int[] pops = {0, 0, 0, 1, 0, 0, 1, 0, 0};
        for (int cell = 0; cell < 9; cell++) {
            due("top of " + cell, tops[cell], desk.top(cell));
            due("pops of " + cell, pops[cell], desk.popped(cell));
        }
        due("one circle", 1, desk.circles());
    }

    private void promise7Trees() {
        due("2 x 2", 4, new Desk(2, 2, 0).trees());
        due("3 x 3", 192, new Desk(3, 3, 0).trees());
        due("3 x 4", 2415, new Desk(3, 4, 0).trees());
        due("3 x 5", 30305, new Desk(3, 5, 0).trees());
        due("3 x 3 wrapped", 11664, new Desk(3, 3, 3).trees());
    }

    /** Each set of passages of small boards is looked at: so many of them are trees. */
    private void promise7TreesOneByOne() {
        int[][] boards = {{3, 3, 0, 0}, {3, 3, 1, 0}, {3, 3, 3, 0}, {2, 4, 3, 0}, {2, 3, 2, 1}, {4, 2, 1, 16},
            {3, 3, 0, 16}, {3, 3, 3, 1 + 16}, {5, 2, 0, 4 + 128}, {4, 3, 2, 1 + 2 + 32 + 64}};
        for (int[] b : boards) {
            Desk desk = new Desk(b[0], b[1], b[2]);
            for (int cell = 0; cell < b[0] * b[1]; cell++) {
                if ((b[3] >> cell & 1) == 1) {
                    desk.cut(cell, true);
                }
            }
            due("trees of " + b[0] + " x " + b[1] + " wrapped " + b[2] + " cut " + b[3],
                    TreesOneByOne.count(b[0], b[1], b[2], b[3]), desk.trees());
        }
    }

    private void promises8And9Passages() {
        Desk desk = new Desk(3, 3, 0);
        desk.make(7, 4);
        due("4 to 5", 1, desk.passage(4, RIGHT));
        due("4 to 1", 0, desk.passage(4, UP));
        due("opened", true, desk.open(4, UP, true));
        due("closed", true, desk.open(5, LEFT, false));
        due("4 to 1", 1, desk.passage(4, UP));
        due("4 to 5", 0, desk.passage(4, RIGHT));
        due("drawn", "+-+-+-+\n|     |\n+-+ + +\n|  S| |\n+ +-+ +\n| |   |\n+-+-+-+\n", desk.picture());
    }

    private void promises10And11DeadEnds() {
        Desk desk = new Desk(3, 3, 0);
        desk.make(7, 4);
        due("0, 6 and 7", 3, desk.deadEnds());
        due("one is opened", 1, desk.braid(1));
        due("of cell 0, down", 1, desk.passage(0, DOWN));
        due("6 and 7", 2, desk.deadEnds());
        due("both at once, as they are neighbours", 1, desk.braid(5));
        due("none", 0, desk.deadEnds());
        due("drawn", "+-+-+-+\n|     |\n+ +-+ +\n|  S  |\n+ +-+ +\n|     |\n+-+-+-+\n", desk.picture());
    }

    private void promises12To14Things() {
        Desk desk = Desk.made(5, 1, 0, 2);
        due("key 1", true, desk.key(1, 3));
        due("its door", true, desk.door(1, 1, LEFT));
        due("a one-way", true, desk.oneWay(3, RIGHT));
        due("drawn", "+-+-+-+-+-+\n| b  S 1> |\n+-+-+-+-+-+\n", desk.picture());
        due("the door is shut", true, desk.walk(LEFT) && !desk.walk(LEFT));
        due("the key is got", true, desk.walk(RIGHT) && desk.walk(RIGHT) && desk.player(1) == 2);
        due("the door is passed", true, desk.walk(LEFT) && desk.walk(LEFT) && desk.walk(LEFT));
        due("the one-way is passed", true, desk.start(3) && desk.walk(RIGHT));
        due("but not back", false, desk.walk(LEFT));
    }

    private void promises15And16StartAndExit() {
        Desk desk = Desk.made(5, 1, 0, 2);
        due("start", true, desk.start(4));
        due("exit", true, desk.exit(1));
        due("three steps apart", 3, desk.escape());
        due("drawn", "+-+-+-+-+-+\n|  E     S|\n+-+-+-+-+-+\n", desk.picture());
    }

    private void promise17PlaceKeys() {
        for (int seed = 0; seed < 40; seed++) {
            Desk desk = Desk.made(5, 1, 0, 0);
            desk.exit(4);
            desk.door(2, 0, RIGHT);
            desk.door(1, 1, RIGHT);
            due("two keys are needed", 1, desk.placeKeys(seed));
            desk.again();
            due("the first is at the start", true, desk.player(1) == 4 || desk.player(1) == 6);
            due("an escape", 4, desk.escape());
        }
    }

    /** Where each key has to come by the numbers, in a row with doors of keys 2 and 0. */
    private void promise17PlaceKeysBySeed() {
        for (int seed = -100; seed < 100; seed++) {
            int s = seed * 40503077;
            Desk desk = Desk.made(9, 1, 0, 4);
            desk.exit(8);
            desk.door(2, 5, RIGHT);
            desk.oneWay(3, LEFT);
            desk.door(0, 6, RIGHT);
            due("placed", 1, desk.placeKeys(s));
            // First six cells, 0 to 5, are come to; then one more.
            long x = Edges.nextX(s & 0xFFFFFFFFL);
            long first = x / 65536 % 6;
            x = Edges.nextX(x);
            long second = x / 65536 % 7;
            desk.start((int) first);
            due("key 2 by seed " + s, 4, desk.player(1) & 4);
            desk.start((int) second);
            due("key 0 by seed " + s, 1, desk.player(1) & 1);
        }
    }

    private void promise18Escape() {
        Desk desk = Desk.made(6, 1, 0, 2);
        desk.exit(5);
        due("three steps", 3, desk.escape());
        desk.door(1, 3, RIGHT);
        desk.key(1, 0);
        due("the key is the other way", 7, desk.escape());
        desk.key(1, 1);
        desk.door(3, 4, RIGHT);
        desk.key(3, 0);
        due("two keys", 7, desk.escape());
        desk.key(3, 4);
        due("one behind the other's door", 5, desk.escape());
        Desk all = Desk.made(9, 1, 0, 4);
        all.exit(8);
        for (int k = 0; k < 4; k++) {
            all.door(k, 4 + k, RIGHT);
            all.key(k, 3 - k);
        }
        due("four keys", 12, all.escape());
    }

    private void promise19Step() {
        Desk desk = Desk.made(6, 1, 0, 2);
        desk.exit(5);
        desk.door(1, 3, RIGHT);
        desk.key(1, 0);
        due("there and back", "<<>>>>>", desk.escapeSteps());
        Desk wide = Desk.opened(4, 3, 0);
        wide.exit(11);
        due("right before down", ">>>vv", wide.escapeSteps());
        Desk maze = new Desk(12, 12, 0);
        maze.make(77, 0);
        maze.exit(143);
        String steps = maze.escapeSteps();
        due("as many as there are", maze.escape(), steps.length());
        for (int i = 0; i < steps.length(); i++) {
            due("step " + i + " can be walked", true, maze.walk("^>v<".indexOf(steps.charAt(i))));
        }
        due("out", 143, maze.player(0));
    }

    private void promises20To22Player() {
        Desk desk = Desk.opened(3, 2, 0);
        desk.key(2, 4);
        desk.key(0, 5);
        due("down and right", true, desk.walk(DOWN) && desk.walk(RIGHT));
        due("the player", "4/4/2", desk.playerTold());
        due("right, up and left", true, desk.walk(RIGHT) && desk.walk(UP) && desk.walk(LEFT));
        due("the player", "1/5/5", desk.playerTold());
        due("again", true, desk.again());
        due("the player", "0/0/0", desk.playerTold());
    }

    private void promise23Drawing() {
        Desk seven = new Desk(3, 3, 0);
        seven.make(7, 4);
        due("as drawn", "+-+-+-+\n|     |\n+-+-+ +\n|  S  |\n+ +-+ +\n| |   |\n+-+-+-+\n", seven.picture());
        Desk desk = new Desk(4, 3, 0);
        desk.cut(5, true);
        desk.make(1, 0);
        desk.openAll(true);
        due("a cut cell", "+-+-+-+-+\n|S      |\n+ +-+ + +\n| |#|   |\n+ +-+ + +\n|       |\n+-+-+-+-+\n", desk.picture());
        desk.exit(7);
        desk.key(3, 10);
        desk.key(2, 10);
        desk.key(1, 8);
        desk.oneWay(0, RIGHT);
        desk.oneWay(2, LEFT);
        desk.oneWay(0, DOWN);
        desk.oneWay(8, UP);
        desk.door(0, 2, DOWN);
        desk.door(1, 3, DOWN);
        desk.door(2, 8, RIGHT);
        desk.door(3, 11, LEFT);
        due("all signs", "+-+-+-+-+\n|S> <   |\n+v+-+a+b+\n| |#|  E|\n+^+-+ + +\n|1c  2d |\n+-+-+-+-+\n", desk.picture());
    }
}
