/** Each promise by itself: ordinary calls, the edges that the document names, and wrong ones. */
public final class PromisesTest {
    private static final int NONE = MazeDesk.NONE;
    private static final int UP = 0;
    private static final int RIGHT = 1;
    private static final int DOWN = 2;
    private static final int LEFT = 3;
    private static final int[] NO_DIRECTIONS = {-1, 4, 5, 7, Integer.MIN_VALUE, Integer.MAX_VALUE};
    private static final int[] FAR_OFF = {-2, -3, Integer.MIN_VALUE, Integer.MAX_VALUE, 1 << 30, 144, 145};

    private final Checks checks = new Checks();

    public static void main(String[] args) {
        PromisesTest test = new PromisesTest();
        test.promise1SizeAndWrapping();
        test.promise1Nothing();
        test.promise2Cut();
        test.promise3Make();
        test.promise3MakeRefused();
        test.promise3NewMaze();
        test.promise3To6Stacks();
        test.promise3To6Board();
        test.promise7Trees();
        test.promise7TreesOneByOne();
        test.promise8Passage();
        test.promise9Open();
        test.promise10Braid();
        test.promise10BraidInOrder();
        test.promise11DeadEnds();
        test.promise12Key();
        test.promise13Door();
        test.promise14OneWay();
        test.promise15Start();
        test.promise16Exit();
        test.promise17PlaceKeys();
        test.promise17PlaceKeysFails();
        test.promise17PlaceKeysBySeed();
        test.promise17DoorsThatCount();
        test.promise18Escape();
        test.promise18EscapeAfterChanges();
        test.promise19Step();
        test.promise19FirstByDirections();
        test.promise20Walk();
        test.promise21Again();
        test.promise22Player();
        test.promise23Drawing();
        test.promise23DrawingWrapped();
        test.checks.end();
    }

    private void due(String what, long want, long got) {
        checks.due(what, want, got);
    }

    private void due(String what, boolean want, boolean got) {
        checks.due(what, want, got);
    }

    private static long firstX(int seed, int cell) {
        return (seed + cell * -1640531535L) & 0xFFFFFFFFL;
    }

    private static long nextX(long x) {
        return (x * 1664525L + 1013904223L) & 0xFFFFFFFFL;
    }

    private void promise1SizeAndWrapping() {
        int[][] sizes = {{1, 1}, {12, 12}, {3, 5}, {0, 13}, {-7, 4}, {13, 0},
            {Integer.MIN_VALUE, Integer.MAX_VALUE}, {Integer.MAX_VALUE, Integer.MIN_VALUE}};
        for (int[] size : sizes) {
            int width = Math.max(1, Math.min(12, size[0]));
            int height = Math.max(1, Math.min(12, size[1]));
            for (int wrapped : new int[] {0, 1, 2, 3, 4, 5, 6, 7, -1, -2, -3, -4, Integer.MIN_VALUE}) {
                Desk desk = new Desk(size[0], size[1], wrapped);
                String name = size[0] + " x " + size[1] + " wrapped " + wrapped;
                due(name + " is drawn", 1, desk.make(3, 0));
                due(name + ": last byte", 10, desk.drawing((2 * width + 2) * (2 * height + 1) - 1));
                due(name + ": no byte more", NONE, desk.drawing((2 * width + 2) * (2 * height + 1)));
                due(name + ": first line's end", 10, desk.drawing(2 * width + 1));
                due(name + ": no cell more", false, desk.start(width * height));
                due(name + ": last cell", true, desk.start(width * height - 1));
                due(name + ": left and right", (wrapped & 1) == 1 && width > 1, desk.passage(0, LEFT) != NONE);
                due(name + ": up and down", (wrapped & 2) == 2 && height > 1, desk.passage(0, UP) != NONE);
                int last = width * height - 1;
                due(name + ": right and left", (wrapped & 1) == 1 && width > 1, desk.passage(last, RIGHT) != NONE);
                due(name + ": down and up", (wrapped & 2) == 2 && height > 1, desk.passage(last, DOWN) != NONE);
            }
        }
    }

    private void promise1Nothing() {
        withoutMaze("new", new Desk(3, 3, 3));
        Desk desk = new Desk(2, 2, 0);
        for (int cell = 0; cell < 4; cell++) {
            due("a new board has nothing cut", false, desk.cut(cell, false));
        }
    }

    private void withoutMaze(String name, Desk desk) {
        due(name + ": top", NONE, desk.top(1));
        due(name + ": popped", NONE, desk.popped(0));
        due(name + ": circles", NONE, desk.circles());
        due(name + ": passage", NONE, desk.passage(0, RIGHT));
        due(name + ": open", false, desk.open(0, RIGHT, true));
        due(name + ": close", false, desk.open(0, RIGHT, false));
        due(name + ": braid", NONE, desk.braid(1));
        due(name + ": braid none", NONE, desk.braid(0));
        due(name + ": deadEnds", NONE, desk.deadEnds());
        due(name + ": key", false, desk.key(0, 0));
        due(name + ": key nowhere", false, desk.key(0, NONE));
        for (int cell = 0; cell < 4; cell++) {
            for (int d = 0; d < 4; d++) {
                due(name + ": door", false, desk.door(0, cell, d));
                due(name + ": no door", false, desk.door(NONE, cell, d));
                due(name + ": oneWay", false, desk.oneWay(cell, d));
                due(name + ": walk", false, desk.walk(d));
            }
        }
        due(name + ": start", false, desk.start(0));
        due(name + ": exit", false, desk.exit(0));
        due(name + ": exit none", false, desk.exit(NONE));
        due(name + ": placeKeys", NONE, desk.placeKeys(1));
        due(name + ": escape", NONE, desk.escape());
        due(name + ": step", NONE, desk.step(0));
        due(name + ": again", false, desk.again());
        for (int what = -1; what <= 3; what++) {
            due(name + ": player", NONE, desk.player(what));
        }
        due(name + ": drawing", NONE, desk.drawing(0));
    }

    private void promise2Cut() {
        Desk desk = new Desk(3, 2, 0);
        due("cut", true, desk.cut(4, true));
        due("cut again", false, desk.cut(4, true));
        due("uncut another", false, desk.cut(3, false));
        due("uncut", true, desk.cut(4, false));
        due("uncut again", false, desk.cut(4, false));
        due("cell -1", false, desk.cut(-1, true));
        due("cell -1, uncut", false, desk.cut(-1, false));
        due("cell 6", false, desk.cut(6, true));
        for (int cell : FAR_OFF) {
            due("cut far off", false, desk.cut(cell, true));
            due("uncut far off", false, desk.cut(cell, false));
        }
        due("maze", 1, desk.make(1, 0));
        due("uncut what is not", false, desk.cut(1, false));
        due("cut what is not there", false, desk.cut(6, true));
        due("the maze is still there", 0, desk.player(0));
        due("cut in a maze", true, desk.cut(5, true));
        withoutMaze("after cut", desk);
        due("maze again", 1, desk.make(1, 0));
        due("uncut in a maze", true, desk.cut(5, false));
        withoutMaze("after uncut", desk);
    }

    private void promise3Make() {
        Desk desk = new Desk(4, 1, 0);
        due("root -1", NONE, desk.make(5, -1));
        due("root 4", NONE, desk.make(5, 4));
        due("drawn", 1, desk.make(5, 3));
        due("start at the root", 3, desk.player(0));
        for (int root : FAR_OFF) {
            due("root far off", NONE, desk.make(5, root));
        }
        due("nothing happens", 3, desk.player(0));
        due("drawn anew", 1, desk.make(5, 0));
        desk.cut(3, true);
        due("root cut", NONE, desk.make(5, 3));
        due("one cell", 1, new Desk(1, 1, 3).make(0, 0));
        for (int seed = -20; seed < 20; seed++) {
            Desk large = new Desk(12, 12, 0);
            due("large", 1, large.make(seed * 123456789, (seed + 20) * 3));
            due("a tree has one passage less than cells", 143, openPassages(large));
        }
    }

    private static int openPassages(Desk desk) {
        int open = 0;
        for (int cell = 0; cell < 144; cell++) {
            open += desk.passage(cell, RIGHT) == 1 ? 1 : 0;
            open += desk.passage(cell, DOWN) == 1 ? 1 : 0;
        }
        return open;
    }

    private void promise3MakeRefused() {
        Desk desk = new Desk(4, 1, 0);
        due("maze", 1, desk.make(5, 0));
        desk.cut(1, true);
        due("apart", 0, desk.make(5, 0));
        withoutMaze("after 0", desk);
        due("apart, from the other side", 0, desk.make(5, 2));
        due("root cut is NONE, apart or not", NONE, desk.make(5, 1));
        desk.cut(0, true);
        due("what is cut need not be joined", 1, desk.make(5, 2));
        due("root", 2, desk.player(0));
        Desk ring = new Desk(4, 1, 1);
        ring.cut(1, true);
        due("a ring holds together without one", 1, ring.make(5, 0));
        ring.cut(3, true);
        due("and not without two", 0, ring.make(5, 0));
        Desk corners = new Desk(2, 2, 0);
        corners.cut(0, true);
        corners.cut(3, true);
        due("no ways across corners", 0, corners.make(5, 1));
    }

    private void promise3NewMaze() {
        Desk desk = Desk.made(4, 1, 0, 0);
        desk.exit(3);
        desk.key(1, 2);
        desk.key(2, 0);
        desk.door(0, 0, RIGHT);
        desk.oneWay(1, LEFT);
        desk.open(2, RIGHT, false);
        desk.start(1);
        desk.walk(RIGHT);
        due("made anew", 1, desk.make(1, 2));
        due("player's cell", 2, desk.player(0));
        due("player's keys", 0, desk.player(1));
        due("player's steps", 0, desk.player(2));
        due("no exit", NONE, desk.escape());
        checks.due("all as new", "+-+-+-+-+\n|    S  |\n+-+-+-+-+\n", desk.picture());
        due("cells joined", true, desk.walk(LEFT) && desk.walk(LEFT) && desk.walk(RIGHT));
        due("no key was left", 0, desk.player(1));
    }

    /** In a row of three, the last two cells are a circle as long as the middle one points right. */
    private void promise3To6Stacks() {
        for (int seed = -300; seed < 300; seed++) {
            int s = seed * 71582789;
            long x = nextX(firstX(s, 1));
            int pops = 0;
            while (x / 65536 % 2 == 0) {
                pops++;
                x = nextX(x);
            }
            Desk desk = new Desk(3, 1, 0);
            due("row of three", 1, desk.make(s, 0));
            due("top of the middle", LEFT, desk.top(1));
            due("top of the last", LEFT, desk.top(2));
            due("popped in the middle, seed " + s, pops, desk.popped(1));
            due("popped at the end, seed " + s, pops, desk.popped(2));
            due("popped at the root", 0, desk.popped(0));
            due("circles, seed " + s, pops, desk.circles());
        }
    }

    private void promise3To6Board() {
        Desk desk = new Desk(3, 3, 0);
        desk.make(7, 4);
        int[] tops = {RIGHT, RIGHT, DOWN, RIGHT, NONE, LEFT, UP, RIGHT, UP};
        for (int cell = 0; cell < 9; cell++) {
            due("top of " + cell, tops[cell], desk.top(cell));
            due("top is open", cell == 4 ? NONE : 1, desk.passage(cell, desk.top(cell)));
        }
        due("one circle", 1, desk.circles());
        due("a circle has two cells at least", true, poppedInAll(desk, 9) >= 2);
        for (int cell : new int[] {-1, 9, -5, 100, Integer.MIN_VALUE, Integer.MAX_VALUE}) {
            due("top of another", NONE, desk.top(cell));
            due("popped of another", NONE, desk.popped(cell));
        }
        int top = desk.top(0);
        desk.open(0, top, false);
        desk.start(0);
        desk.braid(9);
        due("top is as it was drawn", top, desk.top(0));
        due("the root stays the root", NONE, desk.top(4));
        due("and another start has a top", true, desk.top(0) != NONE);
        desk.cut(0, true);
        desk.make(7, 4);
        due("top of a cut cell", NONE, desk.top(0));
        due("popped of a cut cell", NONE, desk.popped(0));
        due("popped at the root", 0, desk.popped(4));
        due("no circles in one cell", 0, Desk.made(1, 1, 3, 0).circles());
        due("nor between a cell and its root", 0, Desk.made(2, 2, 0, 0).popped(0));
        due("two cells", 0, Desk.made(2, 1, 0, 1).circles());
        Desk twice = new Desk(12, 12, 3);
        twice.make(99, 5);
        int circles = twice.circles();
        int pops = poppedInAll(twice, 144);
        twice.make(99, 5);
        due("circles are counted anew", circles, twice.circles());
        due("pops are counted anew", pops, poppedInAll(twice, 144));
    }

    private static int poppedInAll(Desk desk, int cells) {
        int sum = 0;
        for (int cell = 0; cell < cells; cell++) {
            sum += desk.popped(cell);
        }
        return sum;
    }

    private void promise7Trees() {
        due("1 x 1", 1, new Desk(1, 1, 3).trees());
        due("2 x 1", 1, new Desk(2, 1, 0).trees());
        due("2 x 1 wrapped: two passages", 2, new Desk(2, 1, 1).trees());
        due("12 x 1", 1, new Desk(12, 1, 0).trees());
        due("a ring of 12", 12, new Desk(1, 12, 2).trees());
        due("a ring only if wrapped that way", 1, new Desk(1, 12, 1).trees());
        due("2 x 2", 4, new Desk(2, 2, 0).trees());
        due("2 x 8", 10864, new Desk(2, 8, 0).trees());
        due("3 x 3", 192, new Desk(3, 3, 0).trees());
        due("3 x 4", 2415, new Desk(3, 4, 0).trees());
        due("3 x 5", 30305, new Desk(3, 5, 0).trees());
        due("4 x 4", 100352, new Desk(4, 4, 0).trees());
        due("3 x 3 wrapped", 11664, new Desk(3, 3, 3).trees());
        due("4 x 4 wrapped", 42467328, new Desk(4, 4, 3).trees());
        due("17 cells and more", NONE, new Desk(6, 3, 0).trees());
        Desk desk = new Desk(6, 3, 0);
        desk.cut(0, true);
        due("17 cells", NONE, desk.trees());
        desk.cut(1, true);
        due("16 cells", true, desk.trees() > 0);
        desk.cut(8, true);
        desk.cut(14, true);
        due("apart", 0, desk.trees());
        Desk none = new Desk(2, 1, 0);
        none.cut(0, true);
        due("one of two", 1, none.trees());
        none.cut(1, true);
        due("no cell", NONE, none.trees());
        Desk drawn = Desk.made(3, 3, 0, 0);
        drawn.open(0, RIGHT, false);
        drawn.open(0, DOWN, false);
        due("what is open does not matter", 192, drawn.trees());
        due("and is not lost", 0, drawn.player(0));
    }

    /** Each set of passages of small boards is looked at: so many of them are trees. */
    private void promise7TreesOneByOne() {
        int[][] boards = {{3, 3, 0, 0}, {3, 3, 1, 0}, {3, 3, 3, 0}, {2, 4, 3, 0}, {2, 3, 2, 1}, {4, 2, 1, 16},
            {3, 3, 0, 16}, {3, 3, 3, 1 + 16}, {5, 2, 0, 4 + 128}, {4, 3, 2, 1 + 2 + 32 + 64}};
        for (int[] b : boards) {
            Desk desk = new Desk(b[0], b[1], b[2]);
            for (int cell = 0; cell < b[0] * b[1]; cell++) {
                if ((b[3] >> cell & 1) == 1) {
                    desk.cut(cell, true);
                }
            }
            due("trees of " + b[0] + " x " + b[1] + " wrapped " + b[2] + " cut " + b[3],
                    TreesOneByOne.count(b[0], b[1], b[2], b[3]), desk.trees());
        }
    }

    private void promise8Passage() {
        Desk desk = Desk.made(3, 1, 0, 1);
        due("open", 1, desk.passage(0, RIGHT));
        due("open from the other side", 1, desk.passage(1, LEFT));
        due("no way left", NONE, desk.passage(0, LEFT));
        due("no way up", NONE, desk.passage(0, UP));
        due("no way down", NONE, desk.passage(0, DOWN));
        desk.open(1, LEFT, false);
        due("closed", 0, desk.passage(0, RIGHT));
        due("closed from the other side", 0, desk.passage(1, LEFT));
        due("another", 1, desk.passage(1, RIGHT));
        for (int d : NO_DIRECTIONS) {
            due("no direction", NONE, desk.passage(1, d));
        }
        due("cell -1", NONE, desk.passage(-1, RIGHT));
        due("cell 3", NONE, desk.passage(3, LEFT));
        for (int cell : FAR_OFF) {
            due("far off", NONE, desk.passage(cell, RIGHT));
        }
        desk.cut(2, true);
        desk.make(1, 0);
        due("into a cut cell", NONE, desk.passage(1, RIGHT));
        due("out of a cut cell", NONE, desk.passage(2, LEFT));
        Desk two = Desk.closed(2, 1, 1);
        two.open(0, LEFT, true);
        due("one of two between the same cells", 1, two.passage(1, RIGHT));
        due("the other of them", 0, two.passage(0, RIGHT));
        due("and from the other side", 0, two.passage(1, LEFT));
        Desk rows = Desk.closed(2, 2, 0);
        rows.open(2, UP, true);
        due("down", 1, rows.passage(0, DOWN));
        due("beside it", 0, rows.passage(1, DOWN));
    }

    private void promise9Open() {
        Desk desk = Desk.made(3, 1, 0, 0);
        due("is open", false, desk.open(0, RIGHT, true));
        due("close", true, desk.open(0, RIGHT, false));
        due("is closed", false, desk.open(1, LEFT, false));
        due("open from the other side", true, desk.open(1, LEFT, true));
        due("no way", false, desk.open(0, UP, true));
        due("no way to close", false, desk.open(0, LEFT, false));
        for (int d : NO_DIRECTIONS) {
            due("no direction", false, desk.open(1, d, true));
        }
        due("cell -1", false, desk.open(-1, RIGHT, true));
        due("cell 3", false, desk.open(3, LEFT, false));
        for (int cell : FAR_OFF) {
            due("far off", false, desk.open(cell, LEFT, false));
        }
        desk.door(2, 0, RIGHT);
        desk.oneWay(1, RIGHT);
        checks.due("a door and a one-way", "+-+-+-+\n|Sc > |\n+-+-+-+\n", desk.picture());
        due("what is open stays as it is", false, desk.open(0, RIGHT, true) || desk.open(1, RIGHT, true));
        checks.due("still there", "+-+-+-+\n|Sc > |\n+-+-+-+\n", desk.picture());
        due("close the door", true, desk.open(1, LEFT, false));
        due("close the one-way", true, desk.open(2, LEFT, false));
        checks.due("closed", "+-+-+-+\n|S| | |\n+-+-+-+\n", desk.picture());
        due("open", true, desk.open(0, RIGHT, true) && desk.open(1, RIGHT, true));
        checks.due("without a door, and both ways", "+-+-+-+\n|S    |\n+-+-+-+\n", desk.picture());
    }

    private void promise10Braid() {
        Desk row = Desk.made(4, 1, 0, 0);
        due("dead ends without a closed way", 0, row.braid(9));
        due("cells without any open passage are none", 0, Desk.closed(3, 3, 0).braid(9));
        Desk desk = combOfFive();
        due("none at most", 0, desk.braid(0));
        due("fewer than none", 0, desk.braid(-1));
        due("and fewest", 0, desk.braid(Integer.MIN_VALUE));
        due("nothing was opened", 5, desk.deadEnds());
        due("one at most", 1, desk.braid(1));
        due("of cell 0, the first closed by directions", 1, desk.passage(0, RIGHT));
        due("and no other", 0, desk.passage(2, RIGHT));
        desk = combOfFive();
        due("as many as there are", 3, desk.braid(Integer.MAX_VALUE));
        due("none left", 0, desk.braid(9));
    }

    /** Five columns that hang on the last row: the five cells above are dead ends. */
    private static Desk combOfFive() {
        Desk desk = Desk.closed(5, 2, 0);
        for (int x = 0; x < 5; x++) {
            desk.open(x, DOWN, true);
            desk.open(5 + x, RIGHT, true);
        }
        return desk;
    }

    private void promise10BraidInOrder() {
        Desk desk = combOfFive();
        desk.braid(9);
        // 0 is joined to 1, which is none then; 2 to 3, which is none then; 4 has a way left alone.
        checks.due("in the order of cells", "+-+-+-+-+-+\n|S  |     |\n+ + + + + +\n|         |\n+-+-+-+-+-+\n",
                desk.picture());
        due("none is left", 0, desk.deadEnds());
    }

    private void promise11DeadEnds() {
        due("one cell", 0, Desk.made(1, 1, 0, 0).deadEnds());
        due("a row", 2, Desk.made(5, 1, 0, 2).deadEnds());
        Desk desk = Desk.closed(3, 3, 0);
        due("all closed", 0, desk.deadEnds());
        desk.open(4, UP, true);
        due("a pair", 2, desk.deadEnds());
        desk.open(4, LEFT, true);
        due("three in a line", 2, desk.deadEnds());
        desk.open(4, DOWN, true);
        due("a star", 3, desk.deadEnds());
        desk.door(1, 4, UP);
        desk.oneWay(4, LEFT);
        due("doors and one-ways are open", 3, desk.deadEnds());
        Desk two = Desk.opened(2, 1, 1);
        due("two passages between two cells", 0, two.deadEnds());
        two.open(0, LEFT, false);
        due("one of them closed", 2, two.deadEnds());
    }

    private void promise12Key() {
        Desk desk = new Desk(3, 2, 0);
        desk.cut(5, true);
        desk.make(1, 0);
        for (int k = 0; k < 4; k++) {
            due("key " + k, true, desk.key(k, 4));
            due("as it is", true, desk.key(k, 4));
            due("nowhere", true, desk.key(k, NONE));
            due("nowhere again", true, desk.key(k, NONE));
            due("no cell", false, desk.key(k, 6));
            due("cut", false, desk.key(k, 5));
        }
        for (int k : new int[] {-1, 4, 5, Integer.MIN_VALUE, Integer.MAX_VALUE}) {
            due("no key " + k, false, desk.key(k, 0));
            due("no key " + k + " nowhere", false, desk.key(k, NONE));
        }
        for (int cell : FAR_OFF) {
            due("key far off", false, desk.key(0, cell));
        }
        desk.key(3, 1);
        due("refused", false, desk.key(3, 5));
        due("stays", '3', desk.drawing(8 + 3));
        desk.key(1, 1);
        due("the lowest", '1', desk.drawing(8 + 3));
        desk.key(1, 2);
        due("it lies in one cell alone", '3', desk.drawing(8 + 3));
        due("the new one", '1', desk.drawing(8 + 5));
    }

    private void promise13Door() {
        Desk desk = Desk.made(3, 1, 0, 0);
        for (int k = 0; k < 4; k++) {
            due("door " + k, true, desk.door(k, 0, RIGHT));
            due("as it is", true, desk.door(k, 1, LEFT));
            due("drawn", "abcd".charAt(k), desk.drawing(8 + 2));
        }
        for (int k : new int[] {-2, 4, 5, Integer.MIN_VALUE, Integer.MAX_VALUE}) {
            due("no key " + k, false, desk.door(k, 0, RIGHT));
        }
        due("as before", 'd', desk.drawing(8 + 2));
        due("walk", false, desk.walk(RIGHT));
        due("no door", true, desk.door(NONE, 1, LEFT));
        due("no door, as it is", true, desk.door(NONE, 0, RIGHT));
        due("walk", true, desk.walk(RIGHT));
        due("no way", false, desk.door(0, 0, UP));
        due("no way, no door", false, desk.door(NONE, 0, LEFT));
        for (int d : NO_DIRECTIONS) {
            due("no direction", false, desk.door(0, 0, d));
        }
        for (int cell : FAR_OFF) {
            due("far off", false, desk.door(0, cell, RIGHT));
        }
        desk.open(1, RIGHT, false);
        due("closed", false, desk.door(0, 1, RIGHT));
        due("closed, no door", false, desk.door(NONE, 1, RIGHT));
        due("still closed", 0, desk.passage(1, RIGHT));
    }

    private void promise14OneWay() {
        Desk desk = Desk.made(3, 1, 0, 0);
        due("to the right", true, desk.oneWay(0, RIGHT));
        due("there", true, desk.walk(RIGHT));
        due("not back", false, desk.walk(LEFT));
        due("to the right no more", true, desk.oneWay(0, RIGHT));
        due("back", true, desk.walk(LEFT));
        due("to the left", true, desk.oneWay(1, LEFT));
        due("not there", false, desk.walk(RIGHT));
        due("turned round at once", true, desk.oneWay(0, RIGHT));
        due("there", true, desk.walk(RIGHT));
        due("not back", false, desk.walk(LEFT));
        due("the next is as it was", true, desk.walk(RIGHT) && desk.walk(LEFT));
        due("no way", false, desk.oneWay(0, UP));
        due("no way", false, desk.oneWay(0, LEFT));
        for (int d : NO_DIRECTIONS) {
            due("no direction", false, desk.oneWay(0, d));
        }
        for (int cell : FAR_OFF) {
            due("far off", false, desk.oneWay(cell, RIGHT));
        }
        desk.open(1, RIGHT, false);
        due("closed", false, desk.oneWay(1, RIGHT));
        Desk column = Desk.made(1, 2, 0, 0);
        column.oneWay(1, UP);
        due("not down", false, column.walk(DOWN));
        column.start(1);
        due("up", true, column.walk(UP));
        Desk two = Desk.opened(2, 1, 1);
        two.oneWay(0, RIGHT);
        two.oneWay(1, RIGHT);
        due("round", true, two.walk(RIGHT) && two.walk(RIGHT) && two.walk(RIGHT));
        due("not the other way round", false, two.walk(LEFT));
        two.oneWay(0, RIGHT);
        due("but where it is both", true, two.walk(LEFT));
        due("and there only", false, two.walk(LEFT));
    }

    private void promise15Start() {
        Desk desk = new Desk(3, 2, 0);
        desk.cut(5, true);
        desk.make(1, 0);
        desk.key(2, 1);
        desk.key(0, 1);
        desk.key(1, 0);
        desk.again();
        due("keys of the root", 2, desk.player(1));
        due("start", true, desk.start(1));
        due("the player's cell", 1, desk.player(0));
        due("his keys are those of the start", 5, desk.player(1));
        due("his steps", 0, desk.player(2));
        due("drawn", 'S', desk.drawing(8 + 3));
        due("no longer", '1', desk.drawing(8 + 1));
        due("cut", false, desk.start(5));
        due("none such", false, desk.start(6));
        due("-1", false, desk.start(NONE));
        for (int cell : FAR_OFF) {
            due("far off", false, desk.start(cell));
        }
        due("still there", 1, desk.player(0));
        Desk row = Desk.made(3, 1, 0, 0);
        row.walk(RIGHT);
        due("not there", false, row.start(3));
        due("nothing happens", 1, row.player(2));
        due("the same start", true, row.start(0));
        due("the player is there anew", 0, row.player(0) + row.player(2));
        row.exit(2);
        row.start(1);
        due("escapes are from the start", 1, row.escape());
    }

    private void promise16Exit() {
        Desk desk = new Desk(4, 1, 0);
        desk.cut(3, true);
        desk.make(1, 0);
        due("no exit at first", NONE, desk.escape());
        due("exit", true, desk.exit(2));
        due("there", 2, desk.escape());
        due("drawn", 'E', desk.drawing(10 + 5));
        due("the same", true, desk.exit(2));
        due("cut", false, desk.exit(3));
        due("none such", false, desk.exit(4));
        for (int cell : FAR_OFF) {
            due("far off", false, desk.exit(cell));
        }
        due("still there", 2, desk.escape());
        due("none", true, desk.exit(NONE));
        due("no escape", NONE, desk.escape());
        due("not drawn", ' ', desk.drawing(10 + 5));
        due("none, as it is", true, desk.exit(NONE));
        due("at the start", true, desk.exit(0));
        due("no step", 0, desk.escape());
    }

    private void promise17PlaceKeys() {
        Desk desk = Desk.made(5, 1, 0, 0);
        desk.key(0, 0);
        desk.key(3, 4);
        due("no exit", NONE, desk.placeKeys(1));
        desk.start(4);
        due("nothing happens", 8, desk.player(1));
        desk.start(0);
        due("nothing happens", 1, desk.player(1));
        desk.exit(4);
        due("no key is needed", 1, desk.placeKeys(1));
        desk.start(4);
        due("key 3 lies nowhere", 0, desk.player(1));
        desk.start(0);
        due("key 0 lies nowhere", 0, desk.player(1));
        desk.door(2, 0, RIGHT);
        desk.door(1, 1, RIGHT);
        for (int seed = 0; seed < 40; seed++) {
            due("two keys are needed", 1, desk.placeKeys(seed));
            desk.again();
            due("the first is at the start", true, desk.player(1) == 4 || desk.player(1) == 6);
            due("an escape", 4, desk.escape());
        }
        due("the start is the exit", true, desk.exit(0));
        due("no key is needed", 1, desk.placeKeys(1));
        desk.again();
        due("none was put", 0, desk.player(1));
    }

    private void promise17PlaceKeysFails() {
        Desk desk = Desk.made(5, 1, 0, 0);
        desk.exit(4);
        desk.open(2, RIGHT, false);
        desk.key(0, 1);
        due("a wall", 0, desk.placeKeys(1));
        checks.due("keys lie nowhere", "+-+-+-+-+-+\n|S    |  E|\n+-+-+-+-+-+\n", desk.picture());
        desk.door(3, 0, RIGHT);
        due("a wall behind a door", 0, desk.placeKeys(1));
        desk.again();
        due("what was put stays", 8, desk.player(1));
        desk.open(2, RIGHT, true);
        desk.oneWay(3, LEFT);
        due("a one-way that comes from there", 0, desk.placeKeys(1));
        desk.oneWay(2, RIGHT);
        due("one that goes there", 1, desk.placeKeys(1));
        desk.door(3, 3, RIGHT);
        due("one key for two doors", 1, desk.placeKeys(1));
        for (int k = 0; k < 4; k++) {
            desk.door(3 - k, k, RIGHT);
        }
        due("all keys", 1, desk.placeKeys(-5));
        due("an escape", true, desk.escape() >= 4);
    }

    /** Where each key has to come by the numbers, in a row with doors of keys 2 and 0. */
    private void promise17PlaceKeysBySeed() {
        for (int seed = -100; seed < 100; seed++) {
            int s = seed * 40503077;
            Desk desk = Desk.made(9, 1, 0, 4);
            desk.exit(8);
            desk.door(2, 5, RIGHT);
            desk.oneWay(3, LEFT);
            desk.door(0, 6, RIGHT);
            due("placed", 1, desk.placeKeys(s));
            // First six cells, 0 to 5, are come to; then one more.
            long x = nextX(s & 0xFFFFFFFFL);
            long first = x / 65536 % 6;
            x = nextX(x);
            long second = x / 65536 % 7;
            desk.start((int) first);
            due("key 2 by seed " + s, 4, desk.player(1) & 4);
            desk.start((int) second);
            due("key 0 by seed " + s, 1, desk.player(1) & 1);
        }
    }

    private void promise17DoorsThatCount() {
        Desk desk = Desk.closed(3, 2, 0);
        desk.open(0, RIGHT, true);
        desk.open(1, RIGHT, true);
        desk.open(0, DOWN, true);
        desk.exit(2);
        desk.door(3, 1, RIGHT);
        desk.door(1, 0, DOWN);
        due("both are come to", 1, desk.placeKeys(4));
        due("the least key was put first, and is needless", true, lies(desk, 1) && lies(desk, 3));
        desk.oneWay(3, UP);
        due("a door that comes from there does not count", 1, desk.placeKeys(4));
        due("so key 1 lies nowhere", false, lies(desk, 1));
        desk.oneWay(0, DOWN);
        desk.open(1, DOWN, true);
        desk.open(4, LEFT, true);
        due("a door between cells that are come to counts", 1, desk.placeKeys(4));
        due("so key 1 was put", true, lies(desk, 1));
        desk.oneWay(0, DOWN);
        desk.oneWay(3, UP);
        due("from one side of the two is enough", 1, desk.placeKeys(4));
        due("so key 1 was put", true, lies(desk, 1));
        Desk row = Desk.made(4, 1, 0, 0);
        row.exit(3);
        row.door(0, 2, RIGHT);
        row.door(1, 1, RIGHT);
        row.oneWay(2, LEFT);
        due("a door that can't be walked to", 0, row.placeKeys(4));
        due("no key", false, lies(row, 0) || lies(row, 1));
    }

    private static boolean lies(Desk desk, int k) {
        for (int cell = 0; desk.start(cell); cell++) {
            if ((desk.player(1) >> k & 1) == 1) {
                desk.start(0);
                return true;
            }
        }
        desk.start(0);
        return false;
    }

    private void promise18Escape() {
        Desk desk = Desk.made(6, 1, 0, 2);
        desk.exit(5);
        due("three steps", 3, desk.escape());
        desk.door(1, 3, RIGHT);
        due("a door", NONE, desk.escape());
        desk.key(1, 5);
        due("the key is behind it", NONE, desk.escape());
        desk.key(1, 0);
        due("the key is the other way", 7, desk.escape());
        checks.due("there and back", "<<>>>>>", desk.escapeSteps());
        desk.key(1, 2);
        due("the key is at the start", 3, desk.escape());
        desk.key(1, 1);
        desk.door(3, 4, RIGHT);
        desk.key(3, 0);
        due("two keys", 7, desk.escape());
        desk.key(3, 4);
        due("one behind the other's door", 5, desk.escape());
        desk.door(1, 2, LEFT);
        due("a key behind its own door", NONE, desk.escape());
        desk.door(NONE, 2, LEFT);
        desk.oneWay(2, LEFT);
        due("a one-way there that does not lead back", NONE, desk.escape());
        desk.oneWay(2, LEFT);
        due("both ways", 5, desk.escape());
        Desk all = Desk.made(9, 1, 0, 4);
        all.exit(8);
        for (int k = 0; k < 4; k++) {
            all.door(k, 4 + k, RIGHT);
            all.key(k, 3 - k);
        }
        due("four keys", 12, all.escape());
        due("the exit may hold a key", true, all.key(0, 8));
        due("which is too late", NONE, all.escape());
    }

    private void promise18EscapeAfterChanges() {
        Desk desk = Desk.opened(3, 2, 0);
        desk.exit(2);
        due("open", 2, desk.escape());
        desk.open(1, RIGHT, false);
        due("after open", 4, desk.escape());
        desk.oneWay(4, LEFT);
        due("after oneWay", 4, desk.escape());
        checks.due("over the middle", ">v>^", desk.escapeSteps());
        desk.oneWay(4, UP);
        due("after another", NONE, desk.escape());
        desk.oneWay(4, LEFT);
        due("after the first again", 4, desk.escape());
        desk.door(0, 5, UP);
        due("after door", NONE, desk.escape());
        due("after placeKeys", 1, desk.placeKeys(3));
        due("an escape", true, desk.escape() >= 4);
        desk.key(0, NONE);
        due("after key", NONE, desk.escape());
        desk.key(0, 0);
        due("with the key", 4, desk.escape());
        desk.open(5, UP, false);
        due("closed", NONE, desk.escape());
        due("placeKeys lifts the key", 0, desk.placeKeys(3));
        desk.open(5, UP, true);
        desk.door(0, 5, UP);
        due("so there is none", NONE, desk.escape());
        desk.start(2);
        due("after start", 0, desk.escape());
        desk.exit(5);
        due("after exit", NONE, desk.escape());
        desk.start(4);
        due("after start", 1, desk.escape());
        desk.make(1, 0);
        due("after make", NONE, desk.escape());
        due("and no step", NONE, desk.step(0));
        Desk ends = Desk.opened(2, 2, 0);
        ends.open(0, RIGHT, false);
        ends.exit(1);
        due("around", 3, ends.escape());
        ends.open(2, RIGHT, false);
        due("closed", NONE, ends.escape());
        ends.braid(1);
        due("after braid", 1, ends.escape());
        ends.walk(RIGHT);
        due("wherever the player is", 1, ends.escape());
    }

    private void promise19Step() {
        Desk desk = Desk.made(1, 4, 0, 0);
        due("no exit", NONE, desk.step(0));
        desk.exit(3);
        for (int i = 0; i < 3; i++) {
            due("step " + i, DOWN, desk.step(i));
        }
        due("step 3", NONE, desk.step(3));
        due("step -1", NONE, desk.step(-1));
        for (int i : FAR_OFF) {
            due("step far off", NONE, desk.step(i));
        }
        desk.exit(0);
        due("no step", NONE, desk.step(0));
        desk.start(3);
        due("up", UP, desk.step(2));
        desk.open(1, UP, false);
        due("no escape", NONE, desk.step(0));
        desk.exit(2);
        due("a shorter one", UP, desk.step(0));
        due("has no step more", NONE, desk.step(1));
    }

    private void promise19FirstByDirections() {
        Desk desk = Desk.opened(4, 3, 0);
        desk.exit(11);
        checks.due("right before down", ">>>vv", desk.escapeSteps());
        desk.start(11);
        desk.exit(0);
        checks.due("up before left", "^^<<<", desk.escapeSteps());
        desk.start(3);
        desk.exit(8);
        checks.due("down before left", "vv<<<", desk.escapeSteps());
        desk.start(8);
        desk.exit(3);
        checks.due("up before right", "^^>>>", desk.escapeSteps());
        desk.open(4, UP, false);
        checks.due("up as soon as can be", "^>^>>", desk.escapeSteps());
        Desk ring = Desk.opened(4, 1, 1);
        ring.exit(2);
        checks.due("right round before left round", ">>", ring.escapeSteps());
        ring.start(3);
        ring.exit(1);
        checks.due("and over the end", ">>", ring.escapeSteps());
        Desk two = Desk.opened(2, 1, 1);
        two.exit(1);
        checks.due("two passages to one cell", ">", two.escapeSteps());
        two.open(0, RIGHT, false);
        checks.due("the other", "<", two.escapeSteps());
        Desk keys = Desk.opened(3, 3, 0);
        keys.start(4);
        keys.exit(8);
        keys.door(0, 8, UP);
        keys.door(0, 8, LEFT);
        keys.key(0, 3);
        checks.due("a key on the left", "<>>v", keys.escapeSteps());
        keys.key(0, 1);
        checks.due("a key above", "^>vv", keys.escapeSteps());
    }

    private void promise20Walk() {
        Desk desk = Desk.opened(2, 2, 0);
        due("right", true, desk.walk(RIGHT));
        due("down", true, desk.walk(DOWN));
        due("left", true, desk.walk(LEFT));
        due("there", 2, desk.player(0));
        due("up", true, desk.walk(UP));
        due("round", 0, desk.player(0));
        due("no way up", false, desk.walk(UP));
        due("no way left", false, desk.walk(LEFT));
        for (int d : NO_DIRECTIONS) {
            due("no direction", false, desk.walk(d));
        }
        desk.open(0, RIGHT, false);
        due("closed", false, desk.walk(RIGHT));
        due("four steps", 4, desk.player(2));
        desk.door(3, 0, DOWN);
        due("a door", false, desk.walk(DOWN));
        desk.key(3, 0);
        due("a key that was put later under him", false, desk.walk(DOWN));
        due("is not had", 0, desk.player(1));
        due("before he comes again", true, desk.again());
        due("through the door", true, desk.walk(DOWN));
        due("with its key", 8, desk.player(1));
        desk.key(3, NONE);
        due("which he keeps", true, desk.walk(UP));
        desk.door(2, 0, DOWN);
        due("another door", false, desk.walk(DOWN));
        due("steps", 2, desk.player(2));
        Desk row = Desk.made(4, 1, 0, 0);
        row.door(0, 2, RIGHT);
        due("to the door", true, row.walk(RIGHT) && row.walk(RIGHT));
        row.key(0, 1);
        row.key(1, 2);
        due("where he was does not count", false, row.walk(RIGHT));
        due("he comes there again", true, row.walk(LEFT) && row.walk(RIGHT));
        due("both keys", 3, row.player(1));
        due("through the door", true, row.walk(RIGHT));
        Desk over = Desk.opened(3, 3, 3);
        due("over the upper end", true, over.walk(UP));
        due("there", 6, over.player(0));
        due("over the left end", true, over.walk(LEFT));
        due("there", 8, over.player(0));
        due("over the right end", true, over.walk(RIGHT));
        due("there", 6, over.player(0));
        due("over the lower end", true, over.walk(DOWN));
        due("there", 0, over.player(0));
    }

    private void promise21Again() {
        Desk desk = Desk.made(4, 1, 0, 1);
        desk.key(2, 2);
        desk.walk(RIGHT);
        desk.walk(RIGHT);
        due("keys", 4, desk.player(1));
        desk.key(1, 1);
        due("again", true, desk.again());
        due("at the start", 1, desk.player(0));
        due("with the keys there alone", 2, desk.player(1));
        due("no steps", 0, desk.player(2));
        due("again at once", true, desk.again());
        desk.key(0, 1);
        due("put later", 2, desk.player(1));
        due("there and back", true, desk.walk(LEFT) && desk.walk(RIGHT));
        due("had then", 3, desk.player(1));
        desk.start(3);
        desk.walk(LEFT);
        due("again", true, desk.again());
        due("at the new start", 3, desk.player(0));
    }

    private void promise22Player() {
        Desk desk = Desk.made(4, 1, 0, 3);
        due("cell", 3, desk.player(0));
        due("keys", 0, desk.player(1));
        due("steps", 0, desk.player(2));
        for (int k = 0; k < 4; k++) {
            desk.key(k, 2);
            desk.start(2);
            due("keys up to " + k, (2 << k) - 1, desk.player(1));
        }
        for (int k = 0; k < 4; k++) {
            for (int other = 0; other < 4; other++) {
                desk.key(other, other == k ? 0 : NONE);
            }
            desk.start(0);
            due("key " + k, 1 << k, desk.player(1));
        }
        for (int steps = 1; steps <= 3; steps++) {
            desk.walk(RIGHT);
            due("steps", steps, desk.player(2));
            due("cell", steps, desk.player(0));
        }
        for (int what : new int[] {-1, 3, 4, -2, Integer.MIN_VALUE, Integer.MAX_VALUE}) {
            due("player(" + what + ")", NONE, desk.player(what));
        }
    }

    private void promise23Drawing() {
        Desk seven = new Desk(3, 3, 0);
        seven.make(7, 4);
        checks.due("as drawn", "+-+-+-+\n|     |\n+-+-+ +\n|  S  |\n+ +-+ +\n| |   |\n+-+-+-+\n", seven.picture());
        checks.due("one cell", "+-+\n|S|\n+-+\n", Desk.made(1, 1, 3, 0).picture());
        Desk desk = new Desk(4, 3, 0);
        desk.cut(5, true);
        desk.make(1, 0);
        for (int cell = 0; cell < 12; cell++) {
            for (int d = 0; d < 4; d++) {
                desk.open(cell, d, true);
            }
        }
        checks.due("a cut cell", "+-+-+-+-+\n|S      |\n+ +-+ + +\n| |#|   |\n+ +-+ + +\n|       |\n+-+-+-+-+\n", desk.picture());
        desk.exit(7);
        desk.key(3, 10);
        desk.key(2, 10);
        desk.key(1, 8);
        desk.key(0, 7);
        desk.key(0, 0);
        desk.oneWay(0, RIGHT);
        desk.oneWay(2, LEFT);
        desk.oneWay(0, DOWN);
        desk.oneWay(8, UP);
        desk.door(0, 2, DOWN);
        desk.door(1, 3, DOWN);
        desk.door(2, 8, RIGHT);
        desk.door(3, 11, LEFT);
        desk.oneWay(8, RIGHT);
        checks.due("all signs", "+-+-+-+-+\n|S> <   |\n+v+-+a+b+\n| |#|  E|\n+^+-+ + +\n|1c  2d |\n+-+-+-+-+\n", desk.picture());
        desk.exit(0);
        desk.door(NONE, 8, RIGHT);
        desk.key(2, NONE);
        desk.key(0, 7);
        desk.open(3, DOWN, false);
        checks.due("the start before the exit", "+-+-+-+-+\n|S> <   |\n+v+-+a+-+\n| |#|  0|\n+^+-+ + +\n|1>  3d |\n+-+-+-+-+\n", desk.picture());
        desk.exit(7);
        due("the exit before a key", 'E', desk.drawing(3 * 10 + 7));
        desk.walk(RIGHT);
        due("the player is not drawn", 'S', desk.drawing(11));
        due("byte -1", NONE, desk.drawing(-1));
        due("last byte", 10, desk.drawing(69));
        due("byte 70", NONE, desk.drawing(70));
        for (int i : FAR_OFF) {
            due("byte far off", NONE, desk.drawing(i));
        }
    }

    private void promise23DrawingWrapped() {
        Desk desk = Desk.opened(2, 2, 3);
        checks.due("open on all sides", "+ + +\n S   \n+ + +\n     \n+ + +\n", desk.picture());
        desk.oneWay(0, UP);
        desk.oneWay(3, DOWN);
        desk.oneWay(0, LEFT);
        desk.oneWay(3, RIGHT);
        checks.due("at both ends alike", "+^+v+\n<S  <\n+ + +\n>   >\n+^+v+\n", desk.picture());
        desk.door(1, 2, DOWN);
        desk.door(2, 1, RIGHT);
        checks.due("doors too", "+b+v+\ncS  c\n+ + +\n>   >\n+b+v+\n", desk.picture());
        desk.open(0, RIGHT, false);
        desk.open(2, UP, false);
        desk.open(2, LEFT, false);
        checks.due("closed", "+b+v+\ncS| c\n+-+ +\n|   |\n+b+v+\n", desk.picture());
        checks.due("wrapped to itself", "+-+\n|S|\n+ +\n| |\n+-+\n", Desk.made(1, 2, 1, 0).picture());
        Desk cut = new Desk(3, 1, 1);
        cut.cut(2, true);
        cut.make(1, 0);
        checks.due("cut at the end", "+-+-+-+\n|S  |#|\n+-+-+-+\n", cut.picture());
    }
}
