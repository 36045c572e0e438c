import java.util.LinkedHashMap;
import java.util.Map;

/** Edges that the section "Terms" names: ends of the board, cut cells, wrapped rows, stacks, circles. */
public final class EdgesOfTermsTest extends Edges {
    public static void main(String[] args) {
        new EdgesOfTermsTest().run();
    }

    @Edge(of = 0, says = "An object is used for at most 512 calls after it has been made")
    void allOf512Calls() {
        Desk walked = Desk.made(2, 1, 0, 0);
        for (int i = 1; i <= 510; i++) {
            due("step " + i, true, walked.walk(i % 2 == 1 ? RIGHT : LEFT));
        }
        due("the last call", 510, walked.player(2));
        Desk drawn = new Desk(12, 12, 3);
        for (int i = 1; i <= 511; i++) {
            due("maze " + i, 1, drawn.make(i, i % 144));
        }
        due("the last call", 511 % 144, drawn.player(0));
        Desk counted = new Desk(4, 4, 3);
        for (int i = 1; i <= 512; i++) {
            due("trees, call " + i, 42467328, counted.trees());
        }
    }

    @Edge(of = 0, says = "All memory is the desk's own.")
    void desksShareNothing() {
        Desk one = Desk.busy();
        String before = one.all();
        Desk other = Desk.busy();
        other.open(4, UP, false);
        other.key(3, 5);
        other.door(2, 4, RIGHT);
        other.start(7);
        other.braid(2);
        other.placeKeys(5);
        other.make(99, 0);
        other.cut(0, true);
        other.cut(8, false);
        new Desk(12, 12, 3).make(1, 143);
        due("a desk while others are used", before, one.all());
    }

    @Edge(of = 0, says = "THE BOARD has CELLS in rows, numbered from 0 on, row by row")
    void cellsAreNumberedRowByRow() {
        Desk desk = Desk.opened(4, 2, 0);
        desk.start(1);
        due("down, right, up, left", true,
                desk.walk(DOWN) && desk.player(0) == 5 && desk.walk(RIGHT) && desk.player(0) == 6
                && desk.walk(UP) && desk.player(0) == 2 && desk.walk(LEFT) && desk.player(0) == 1);
        due("the first cell", true, desk.start(0));
        due("the last cell", true, desk.start(7));
        due("a cell before the first", false, desk.start(-1));
        due("a cell after the last", false, desk.start(8));
    }

    @Edge(of = 0, says = "DIRECTIONS are 0 up, 1 right, 2 down, 3 left")
    void directions() {
        int[] beside = {1, 5, 7, 3};
        for (int direction = 0; direction < 4; direction++) {
            Desk desk = Desk.opened(3, 3, 0);
            desk.start(4);
            due("walk " + direction, true, desk.walk(direction));
            due("leads to", beside[direction], desk.player(0));
        }
    }

    @Edge(of = 0, says = "2 is the way BACK of 0, 3 of 1, and the other way round")
    void waysBack() {
        int[] beside = {1, 5, 7, 3};
        int[] back = {DOWN, LEFT, UP, RIGHT};
        for (int direction = 0; direction < 4; direction++) {
            Desk desk = Desk.closed(3, 3, 0);
            desk.open(4, direction, true);
            for (int d = 0; d < 4; d++) {
                int other = desk.passage(beside[direction], d);
                due("from the other side, " + d, d == back[direction], other == 1);
            }
        }
    }

    @Edge(of = 0, says = "A cell has a WAY in a direction if there is a cell next to it there")
    void noWayBeyondAnEnd() {
        dueWays("not wrapped", Desk.made(3, 3, 0, 0), ">v", ">v<", "v<", "^>v", "^>v<", "^v<", "^>", "^><", "^<");
        dueWays("one cell", Desk.made(1, 1, 0, 0), "");
        dueWays("a row", Desk.made(3, 1, 0, 0), ">", "><", "<");
        dueWays("a column", Desk.made(1, 3, 0, 0), "v", "^v", "^");
    }

    private void dueWays(String name, Desk desk, String... ways) {
        for (int cell = 0; cell < ways.length; cell++) {
            due(name + ": ways of cell " + cell, ways[cell], desk.waysOf(cell));
        }
    }

    @Edge(of = 0, says = "(beyond an end of the board the one at the other end, if it is WRAPPED so)")
    void waysOverTheEnds() {
        dueWays("left and right", Desk.made(3, 3, 1, 0),
                ">v<", ">v<", ">v<", "^>v<", "^>v<", "^>v<", "^><", "^><", "^><");
        dueWays("up and down", Desk.made(3, 3, 2, 0),
                "^>v", "^>v<", "^v<", "^>v", "^>v<", "^v<", "^>v", "^>v<", "^v<");
        dueWays("both", Desk.made(3, 3, 3, 0),
                "^>v<", "^>v<", "^>v<", "^>v<", "^>v<", "^>v<", "^>v<", "^>v<", "^>v<");
    }

    @Edge(of = 0, says = "(beyond an end of the board the one at the other end, if it is WRAPPED so)")
    void wherePastTheEnds() {
        int[][] steps = {{0, UP, 10}, {4, UP, 14}, {10, DOWN, 0}, {14, DOWN, 4}, {0, LEFT, 4}, {5, LEFT, 9},
            {4, RIGHT, 0}, {9, RIGHT, 5}, {14, RIGHT, 10}, {10, LEFT, 14}};
        Desk desk = Desk.opened(5, 3, 3);
        for (int[] step : steps) {
            desk.start(step[0]);
            due("from " + step[0] + " over the end", true, desk.walk(step[1]));
            due("from " + step[0] + " one comes to", step[2], desk.player(0));
        }
    }

    @Edge(of = 0, says = "that is another one")
    void noWayToTheCellItself() {
        dueWays("one cell, wrapped both", Desk.made(1, 1, 3, 0), "");
        dueWays("a column, wrapped left and right", Desk.made(1, 3, 1, 0), "v", "^v", "^");
        dueWays("a row, wrapped up and down", Desk.made(3, 1, 2, 0), ">", "><", "<");
        dueWays("a column, wrapped both", Desk.made(1, 3, 3, 0), "^v", "^v", "^v");
        dueWays("a row, wrapped both", Desk.made(3, 1, 3, 0), "><", "><", "><");
    }

    @Edge(of = 0, says = "that is another one")
    void noDirectionToTheCellItselfOnStacks() {
        for (int seed : SEEDS) {
            dueCrossing("a column wrapped to itself, root above", new Desk(1, 3, 1), 1, new int[] {0, NONE, 2, NONE}, 0, seed);
            dueCrossing("a row wrapped to itself, root right", new Desk(3, 1, 2), 1, new int[] {NONE, 2, NONE, 0}, 2, seed);
        }
    }

    @Edge(of = 0, says = "and neither is cut")
    void noWayFromOrToACutCell() {
        Desk desk = new Desk(3, 3, 0).cutAll(4);
        desk.make(1, 0);
        dueWays("the middle cut", desk, ">v", "><", "v<", "^v", "", "^v", "^>", "><", "^<");
        Desk ring = new Desk(4, 1, 1).cutAll(3);
        ring.make(1, 0);
        dueWays("the last of a ring cut: nothing beyond it", ring, ">", "><", "<", "");
        Desk column = new Desk(1, 4, 2).cutAll(0);
        column.make(1, 1);
        dueWays("the first of a ring cut: nothing beyond it", column, "", "v", "^v", "^");
    }

    @Edge(of = 0, says = "A way and the way back of the cell that it leads to are one PASSAGE, open or closed.")
    void onePassageFromBothSides() {
        Desk desk = Desk.closed(3, 3, 3);
        int[][] sides = {{4, RIGHT, 5, LEFT}, {4, DOWN, 7, UP}, {0, LEFT, 2, RIGHT}, {1, UP, 7, DOWN}};
        for (int[] s : sides) {
            due("opened", true, desk.open(s[0], s[1], true));
            due("open from the other side", 1, desk.passage(s[2], s[3]));
            due("a door from the other side", true, desk.door(1, s[2], s[3]));
            desk.start(s[0]);
            due("shut from this one", false, desk.walk(s[1]));
            due("closed from the other side", true, desk.open(s[2], s[3], false));
            due("closed from this one", 0, desk.passage(s[0], s[1]));
        }
    }

    @Edge(of = 0, says = "A way and the way back of the cell that it leads to are one PASSAGE, open or closed.")
    void twoPassagesToTheSameNeighbour() {
        Desk row = Desk.closed(2, 1, 1);
        row.open(0, LEFT, true);
        due("0 left", 1, row.passage(0, LEFT));
        due("1 right is the same", 1, row.passage(1, RIGHT));
        due("0 right is the other", 0, row.passage(0, RIGHT));
        due("1 left is the other", 0, row.passage(1, LEFT));
        Desk column = Desk.closed(1, 2, 2);
        column.open(0, DOWN, true);
        due("0 down", 1, column.passage(0, DOWN));
        due("1 up is the same", 1, column.passage(1, UP));
        due("0 up is the other", 0, column.passage(0, UP));
        due("1 down is the other", 0, column.passage(1, DOWN));
    }

    @Edge(of = 0, says = "x is seed + c * -1640531535; for each direction on it, from the top on, x becomes "
            + "x * 1664525 + 1013904223 (ints that run over)")
    void stacksOfHighCellsRunOver() {
        int[] neighbours = {118, 131, 142, 129};
        Desk desk = new Desk(12, 12, 0);
        for (int cell = 0; cell < 144; cell++) {
            if (cell != 130 && cell != 118 && cell != 131 && cell != 142 && cell != 129) {
                desk.cut(cell, true);
            }
        }
        for (int seed : SEEDS) {
            dueCrossing("cell 130, seed " + seed, desk, 130, neighbours, 118, seed);
        }
    }

    @Edge(of = 0, says = "that direction is of the cell's ways, in the order of directions, the one with the number "
            + "((x in 32 bits without a sign) / 65536) modulo how many there are, from 0 on.")
    void stacksOfOneToFourWays() {
        int[][] neighbours = {{NONE, 5, NONE, NONE}, {NONE, 5, NONE, 3}, {1, 5, NONE, 3}, {1, 5, 7, 3}};
        int[][] cuts = {{0, 1, 2, 3, 6, 7, 8}, {0, 1, 2, 6, 7, 8}, {0, 2, 6, 7, 8}, {0, 2, 6, 8}};
        for (int ways = 1; ways <= 4; ways++) {
            for (int seed = -60; seed < 60; seed++) {
                Desk desk = new Desk(3, 3, 0).cutAll(cuts[ways - 1]);
                dueCrossing(ways + " ways", desk, 4, neighbours[ways - 1], 5, seed * 71582789);
            }
        }
    }

    @Edge(of = 0, says = "that direction is of the cell's ways, in the order of directions")
    void eachDirectionOnAStack() {
        for (int root : new int[] {1, 3, 5, 7}) {
            for (int seed : SEEDS) {
                dueCrossing("root " + root, new Desk(3, 3, 0).cutAll(0, 2, 6, 8), 4, new int[] {1, 5, 7, 3}, root, seed);
            }
        }
        for (int root : new int[] {1, 3, 4, 12}) {
            for (int seed : SEEDS) {
                Desk desk = new Desk(4, 4, 3).cutAll(2, 5, 6, 7, 8, 9, 10, 11, 13, 14, 15);
                dueCrossing("over the ends, root " + root, desk, 0, new int[] {12, 1, 4, 3}, root, seed);
            }
        }
    }

    /**
     * A crossing beside the root and beside cells that have no other way: whenever it points to one of
     * these, the two are a circle. So its stack tells how often each is popped.
     */
    private void dueCrossing(String name, Desk desk, int crossing, int[] neighbours, int root, int seed) {
        Map<Integer, Integer> pops = new LinkedHashMap<>();
        int ways = 0;
        int[] directions = new int[4];
        for (int d = 0; d < 4; d++) {
            if (neighbours[d] != NONE) {
                pops.put(neighbours[d], 0);
                directions[ways] = d;
                ways++;
            }
        }
        long x = nextX(firstX(seed, crossing));
        int circles = 0;
        int top = directions[(int) (x / 65536 % ways)];
        while (neighbours[top] != root) {
            pops.merge(neighbours[top], 1, Integer::sum);
            circles++;
            x = nextX(x);
            top = directions[(int) (x / 65536 % ways)];
        }
        due(name + ": make", 1, desk.make(seed, root));
        due(name + ": top of the crossing", top, desk.top(crossing));
        due(name + ": pops of the crossing", circles, desk.popped(crossing));
        due(name + ": circles", circles, desk.circles());
        for (int cell : pops.keySet()) {
            due(name + ": pops of " + cell, pops.get(cell), desk.popped(cell));
        }
    }

    @Edge(of = 0, says = "that direction is of the cell's ways, in the order of directions, the one with the number "
            + "((x in 32 bits without a sign) / 65536) modulo how many there are, from 0 on.")
    void twoWaysToTheSameNeighbourAreTwoOnAStack() {
        for (int seed = -40; seed < 40; seed++) {
            int s = seed * 40503077;
            long x = nextX(firstX(s, 1));
            Desk row = Desk.made(2, 1, 1, 0);
            due("row", 1, row.make(s, 0));
            due("row: top", x / 65536 % 2 == 0 ? RIGHT : LEFT, row.top(1));
            Desk column = Desk.made(1, 2, 2, 0);
            due("column", 1, column.make(s, 0));
            due("column: top", x / 65536 % 2 == 0 ? UP : DOWN, column.top(1));
        }
    }

    @Edge(of = 0, says = "each cell but the root and those cut points along the top of its stack")
    void theRootAndCutCellsDoNotPoint() {
        Desk desk = new Desk(2, 2, 0).cutAll(3);
        due("maze", 1, desk.make(5, 0));
        due("the root", NONE, desk.top(0));
        due("a cut cell", NONE, desk.top(3));
        due("right of the root", LEFT, desk.top(1));
        due("below the root", UP, desk.top(2));
        due("no circle with the root", 0, desk.circles());
    }

    @Edge(of = 0, says = "As long as there is a CIRCLE (cells that point to each other round) the tops of all cells of "
            + "one are popped.")
    void circlesAlongTwoPassagesToTheSameNeighbour() {
        for (int seed = -60; seed < 60; seed++) {
            int s = seed * 71582789;
            // Cell 2 is below the root, and has cell 3 on both sides; 3 has nothing else.
            Desk desk = new Desk(2, 2, 1).cutAll(1);
            int pops = 0;
            long x = nextX(firstX(s, 2));
            long y = nextX(firstX(s, 3));
            while (x / 65536 % 3 != 0) {
                pops++;
                x = nextX(x);
                y = nextX(y);
            }
            due("maze", 1, desk.make(s, 0));
            due("circles, seed " + s, pops, desk.circles());
            due("pops of 2, seed " + s, pops, desk.popped(2));
            due("pops of 3, seed " + s, pops, desk.popped(3));
            due("top of 2", UP, desk.top(2));
            due("top of 3, seed " + s, y / 65536 % 2 == 0 ? RIGHT : LEFT, desk.top(3));
        }
    }

    @Edge(of = 0, says = "As long as there is a CIRCLE (cells that point to each other round) the tops of all cells of "
            + "one are popped. (In whatever order that is done, the same circles go.)")
    void circlesOfManyCellsAndRoundTheBoard() {
        for (int seed = 0; seed < 40; seed++) {
            int wrapped = seed % 4;
            Desk desk = new Desk(4, 3, wrapped);
            PlainDesk plain = new PlainDesk(4, 3, wrapped);
            due("maze", plain.make(seed, seed % 12), desk.make(seed, seed % 12));
            due("circles of seed " + seed, plain.circles(), desk.circles());
            for (int cell = 0; cell < 12; cell++) {
                due("pops of " + cell + ", seed " + seed, plain.popped(cell), desk.popped(cell));
                due("top of " + cell + ", seed " + seed, plain.top(cell), desk.top(cell));
            }
        }
    }

    @Edge(of = 0, says = "If none is left, the passages that are pointed along are open, the others closed: THE MAZE.")
    void onlyPassagesPointedAlongAreOpen() {
        for (int seed : SEEDS) {
            Desk desk = new Desk(2, 3, 3);
            due("maze", 1, desk.make(seed, 3));
            int open = 0;
            for (int cell = 0; cell < 6; cell++) {
                due("pointed along", cell == 3 ? NONE : 1, desk.passage(cell, desk.top(cell)));
                open += desk.passage(cell, RIGHT) + desk.passage(cell, DOWN);
            }
            due("open in all, seed " + seed, 5, open);
        }
    }

    @Edge(of = 0, says = "Then the start is the root")
    void theStartOfANewMazeIsTheRoot() {
        Desk desk = Desk.made(4, 1, 0, 1);
        due("the player", "1/0/0", desk.playerTold());
        desk.start(3);
        desk.walk(LEFT);
        due("made anew", 1, desk.make(1, 2));
        due("the player", "2/0/0", desk.playerTold());
        due("drawn", 'S', desk.drawing(10 + 5));
        due("again", true, desk.walk(RIGHT) && desk.again());
        due("the start", 2, desk.player(0));
    }

    @Edge(of = 0, says = "there is no exit")
    void aNewMazeHasNoExit() {
        Desk desk = Desk.made(4, 1, 0, 0);
        due("at first", NONE, desk.escape());
        desk.exit(3);
        due("with an exit", 3, desk.escape());
        desk.make(1, 0);
        due("made anew", NONE, desk.escape());
        due("no keys can be placed", NONE, desk.placeKeys(1));
        due("not drawn", ' ', desk.drawing(10 + 7));
    }

    @Edge(of = 0, says = "no key")
    void aNewMazeHasNoKey() {
        Desk desk = Desk.made(4, 1, 0, 0);
        for (int k = 0; k < 4; k++) {
            desk.key(k, k);
        }
        desk.again();
        desk.walk(RIGHT);
        desk.make(1, 0);
        due("had at the start", 0, desk.player(1));
        due("walked all along", true, desk.walk(RIGHT) && desk.walk(RIGHT) && desk.walk(RIGHT));
        due("had at the end", 0, desk.player(1));
        due("drawn", "+-+-+-+-+\n|S      |\n+-+-+-+-+\n", desk.picture());
    }

    @Edge(of = 0, says = "no door")
    void aNewMazeHasNoDoor() {
        Desk desk = Desk.made(4, 1, 0, 0);
        for (int k = 0; k < 3; k++) {
            desk.door(k + 1, k, RIGHT);
        }
        desk.make(1, 0);
        due("walked all along", true, desk.walk(RIGHT) && desk.walk(RIGHT) && desk.walk(RIGHT));
        due("drawn", "+-+-+-+-+\n|S      |\n+-+-+-+-+\n", desk.picture());
    }

    @Edge(of = 0, says = "no one-way passage")
    void aNewMazeHasNoOneWay() {
        Desk desk = Desk.made(4, 1, 0, 0);
        desk.oneWay(0, RIGHT);
        desk.oneWay(2, LEFT);
        desk.oneWay(3, LEFT);
        desk.make(1, 0);
        due("there", true, desk.walk(RIGHT) && desk.walk(RIGHT) && desk.walk(RIGHT));
        due("and back", true, desk.walk(LEFT) && desk.walk(LEFT) && desk.walk(LEFT));
        due("drawn", "+-+-+-+-+\n|S      |\n+-+-+-+-+\n", desk.picture());
    }

    @Edge(of = 0, says = "no door, no one-way passage")
    void whatWasClosedInTheOldMazeHasNeitherInTheNewOne() {
        Desk desk = Desk.opened(2, 2, 0);
        for (int cell = 0; cell < 4; cell++) {
            desk.door(3, cell, RIGHT);
            desk.door(3, cell, DOWN);
            desk.oneWay(cell, RIGHT);
            desk.oneWay(cell, DOWN);
        }
        desk.make(1, 0);
        desk.openAll(true);
        due("drawn", "+-+-+\n|S  |\n+ + +\n|   |\n+-+-+\n", desk.picture());
    }

    @Edge(of = 0, says = "IN THE MAZE keys 0 .. 3 may lie in cells")
    void allKeysMayLieInOneCell() {
        Desk desk = Desk.made(3, 1, 0, 0);
        for (int k = 0; k < 4; k++) {
            due("key " + k, true, desk.key(k, 1));
        }
        desk.walk(RIGHT);
        due("all are had", 15, desk.player(1));
    }

    @Edge(of = 0, says = "it can be walked from one side alone")
    void aOneWayIsWalkedFromOneSideAlone() {
        Desk desk = Desk.made(2, 1, 0, 0);
        desk.oneWay(1, LEFT);
        due("against it", false, desk.walk(RIGHT));
        desk.exit(1);
        due("no escape against it", NONE, desk.escape());
        due("no keys help against it", 0, desk.placeKeys(1));
        desk.start(1);
        desk.exit(0);
        due("an escape along it", 1, desk.escape());
        due("no keys are needed along it", 1, desk.placeKeys(1));
        due("along it", true, desk.walk(LEFT));
    }

    @Edge(of = 0, says = "has the keys of the cells where he was (the start is one)")
    void theKeysOfTheStartAreHad() {
        Desk desk = Desk.made(2, 1, 0, 0);
        desk.exit(1);
        desk.door(2, 0, RIGHT);
        due("no escape without", NONE, desk.escape());
        desk.key(2, 0);
        due("an escape with the start's key", 1, desk.escape());
        due("again", true, desk.again());
        due("the player has it", 4, desk.player(1));
        due("and passes", true, desk.walk(RIGHT));
    }

    @Edge(of = 0, says = "and passes a door with its key alone")
    void noOtherKeyOpensADoor() {
        for (int k = 0; k < 4; k++) {
            Desk desk = Desk.made(2, 1, 0, 0);
            desk.exit(1);
            desk.door(k, 0, RIGHT);
            for (int other = 0; other < 4; other++) {
                desk.key(other, other == k ? 1 : 0);
            }
            desk.again();
            due("the other three", 15 - (1 << k), desk.player(1));
            due("do not open door " + k, false, desk.walk(RIGHT));
            due("there is no escape with them", NONE, desk.escape());
            due("its own key", true, desk.key(k, 0) && desk.again() && desk.walk(RIGHT));
            due("opens it from the other side too", true, desk.walk(LEFT));
            due("and for an escape", 1, desk.escape());
        }
    }

    @Edge(of = 0, says = "an open passage may have a DOOR of a key, and may be ONE-WAY")
    void aDoorThatIsOneWayNeedsBoth() {
        Desk desk = Desk.made(2, 1, 0, 0);
        desk.exit(1);
        desk.door(0, 0, RIGHT);
        desk.oneWay(0, RIGHT);
        due("without the key", false, desk.walk(RIGHT));
        desk.key(0, 0);
        desk.again();
        due("with it", true, desk.walk(RIGHT));
        due("against it, with the key", false, desk.walk(LEFT));
        due("an escape along it", 1, desk.escape());
        desk.oneWay(1, LEFT);
        due("no escape against it", NONE, desk.escape());
    }

    @Edge(of = 0, says = "An ESCAPE is a walk from the start to the exit.")
    void anEscapeIsFromTheStartNotFromThePlayer() {
        Desk desk = Desk.made(5, 1, 0, 1);
        desk.exit(4);
        desk.walk(RIGHT);
        desk.walk(RIGHT);
        due("from the start", 3, desk.escape());
        desk.door(0, 3, RIGHT);
        desk.key(0, 2);
        desk.again();
        desk.walk(RIGHT);
        desk.key(0, NONE);
        due("the player has the key", 1, desk.player(1));
        due("which is of no use to the escape", NONE, desk.escape());
    }
}
