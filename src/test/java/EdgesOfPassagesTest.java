/** Edges of promises 8 to 11: passage, open, braid, deadEnds. */
public final class EdgesOfPassagesTest extends Edges {
    public static void main(String[] args) {
        new EdgesOfPassagesTest().run();
    }

    @Edge(of = 8, says = "1 if a passage is open, 0 if it is closed")
    void openOrClosed() {
        Desk desk = Desk.busy();
        due("open", 1, desk.passage(4, UP));
        due("closed", 0, desk.passage(0, RIGHT));
        due("closed, from the other side", 0, desk.passage(1, LEFT));
        due("with a door", 1, desk.passage(3, DOWN));
        due("one-way, along it", 1, desk.passage(1, RIGHT));
        due("one-way, against it", 1, desk.passage(2, LEFT));
    }

    @Edge(of = 8, says = "NONE if there is no way there")
    void noPassageBeyondAnEnd() {
        Desk desk = Desk.made(3, 3, 0, 4);
        due("up", NONE, desk.passage(1, UP));
        due("right", NONE, desk.passage(5, RIGHT));
        due("down", NONE, desk.passage(7, DOWN));
        due("left", NONE, desk.passage(3, LEFT));
        due("the other ways of these", true, desk.passage(1, DOWN) != NONE && desk.passage(5, LEFT) != NONE
                && desk.passage(7, UP) != NONE && desk.passage(3, RIGHT) != NONE);
    }

    @Edge(of = 8, says = "NONE if there is no way there")
    void noPassageFromOrToACutCell() {
        Desk desk = Desk.busy();
        due("into it, down", NONE, desk.passage(5, DOWN));
        due("into it, right", NONE, desk.passage(7, RIGHT));
        for (int d = 0; d < 4; d++) {
            due("out of it", NONE, desk.passage(8, d));
        }
    }

    @Edge(of = 8, says = "NONE if there is no way there")
    void noPassageOfNoDirection() {
        Desk desk = Desk.opened(3, 3, 3);
        for (int d : NO_DIRECTIONS) {
            for (int cell : new int[] {0, 4, 8}) {
                due("direction " + d, NONE, desk.passage(cell, d));
            }
        }
    }

    @Edge(of = 8, says = "NONE if there is no way there")
    void noPassageOfNoCell() {
        Desk desk = Desk.opened(3, 3, 3);
        for (int d = 0; d < 4; d++) {
            due("-1", NONE, desk.passage(-1, d));
            due("9", NONE, desk.passage(9, d));
            for (int cell : FAR_OFF) {
                due("far off, " + cell, NONE, desk.passage(cell, d));
            }
        }
        due("neither", NONE, desk.passage(-1, 4));
        due("neither", NONE, desk.passage(-1, 5));
        due("neither", NONE, desk.passage(9, -1));
    }

    @Edge(of = 8, says = "NONE if there is no way there")
    void noPassageToTheCellItself() {
        Desk one = Desk.made(1, 1, 3, 0);
        Desk column = Desk.made(1, 2, 1, 0);
        Desk row = Desk.made(2, 1, 2, 0);
        for (int d = 0; d < 4; d++) {
            due("one cell", NONE, one.passage(0, d));
        }
        due("a column", true, column.passage(0, LEFT) == NONE && column.passage(0, RIGHT) == NONE);
        due("a row", true, row.passage(0, UP) == NONE && row.passage(0, DOWN) == NONE);
        due("but to the other", true, column.passage(0, DOWN) == 1 && row.passage(0, RIGHT) == 1);
    }

    @Edge(of = 8, says = "NONE if there is no way there, or no maze.")
    void noPassageWithoutAMaze() {
        for (NoMaze none : desksWithoutMaze()) {
            due(none.name(), NONE, none.desk().passage(none.cell(), none.direction()));
        }
    }

    @Edge(of = 9, says = "A passage is open, or closed")
    void openedAndClosed() {
        Desk desk = Desk.busy();
        due("opened", true, desk.open(0, RIGHT, true));
        due("is open", 1, desk.passage(1, LEFT));
        due("closed from the other side", true, desk.open(1, LEFT, false));
        due("is closed", 0, desk.passage(0, RIGHT));
        due("the player can't pass", true, desk.start(0) && !desk.walk(RIGHT));
        due("nor the other way", true, desk.start(1) && !desk.walk(LEFT));
    }

    @Edge(of = 9, says = "or closed (then it has no door and is not one-way)")
    void aClosedPassageLosesItsDoor() {
        Desk desk = Desk.made(2, 1, 0, 0);
        desk.door(2, 0, RIGHT);
        due("closed", true, desk.open(0, RIGHT, false));
        due("drawn as closed", '|', desk.drawing(6 + 2));
        due("opened", true, desk.open(0, RIGHT, true));
        due("drawn as open", ' ', desk.drawing(6 + 2));
        due("without a key", true, desk.walk(RIGHT));
    }

    @Edge(of = 9, says = "or closed (then it has no door and is not one-way)")
    void aClosedPassageIsOneWayNoMore() {
        Desk desk = Desk.made(2, 1, 0, 0);
        desk.oneWay(1, LEFT);
        due("closed from the other side", true, desk.open(0, RIGHT, false));
        due("opened", true, desk.open(1, LEFT, true));
        due("drawn as open", ' ', desk.drawing(6 + 2));
        due("there and back", true, desk.walk(RIGHT) && desk.walk(LEFT));
        due("one-way anew", true, desk.oneWay(1, LEFT));
        due("from the other side alone", false, desk.walk(RIGHT));
    }

    @Edge(of = 9, says = "or closed (then it has no door and is not one-way)")
    void aClosedPassageThatBraidOpensHasNeither() {
        Desk desk = Desk.opened(2, 2, 0);
        desk.door(1, 0, RIGHT);
        desk.oneWay(0, RIGHT);
        due("closed", true, desk.open(0, RIGHT, false));
        due("opened", 1, desk.braid(1));
        due("drawn", "+-+-+\n|S  |\n+ + +\n|   |\n+-+-+\n", desk.picture());
    }

    @Edge(of = 9, says = "or closed (then it has no door and is not one-way)")
    void closingLeavesOtherDoors() {
        Desk desk = Desk.opened(2, 1, 1);
        desk.door(1, 0, LEFT);
        desk.door(2, 0, RIGHT);
        due("closed", true, desk.open(0, RIGHT, false));
        due("the other passage to the same cell", "+-+-+\nbS| b\n+-+-+\n", desk.picture());
    }

    @Edge(of = 9, says = "false if there is no way there")
    void noWayToOpen() {
        Desk desk = Desk.busy();
        String before = desk.all();
        int[][] none = {{1, UP}, {5, RIGHT}, {7, DOWN}, {3, LEFT}, {5, DOWN}, {7, RIGHT}, {8, UP}, {8, LEFT},
            {8, RIGHT}, {8, DOWN}, {-1, RIGHT}, {9, LEFT}, {-1, 5}, {9, -1}};
        for (int[] n : none) {
            due("open " + n[0] + ", " + n[1], false, desk.open(n[0], n[1], true));
            due("close " + n[0] + ", " + n[1], false, desk.open(n[0], n[1], false));
        }
        due("nothing happens", before, desk.all());
    }

    @Edge(of = 9, says = "false if there is no way there")
    void noDirectionOrCellToOpen() {
        Desk desk = Desk.busy();
        String before = desk.all();
        for (int d : NO_DIRECTIONS) {
            due("open direction " + d, false, desk.open(4, d, true));
            due("close direction " + d, false, desk.open(4, d, false));
        }
        for (int cell : FAR_OFF) {
            for (int d = 0; d < 4; d++) {
                due("open cell " + cell, false, desk.open(cell, d, true));
                due("close cell " + cell, false, desk.open(cell, d, false));
            }
        }
        due("nothing happens", before, desk.all());
    }

    @Edge(of = 9, says = "false if there is no way there")
    void noWayToTheCellItselfToOpen() {
        Desk one = Desk.made(1, 1, 3, 0);
        for (int d = 0; d < 4; d++) {
            due("open", false, one.open(0, d, true));
            due("close", false, one.open(0, d, false));
        }
    }

    @Edge(of = 9, says = "or no maze")
    void openWithoutAMaze() {
        for (NoMaze none : desksWithoutMaze()) {
            due(none.name(), false, none.desk().open(none.cell(), none.direction(), true));
            due(none.name() + ", closed", false, none.desk().open(none.cell(), none.direction(), false));
        }
    }

    @Edge(of = 9, says = "false if there is no way there, or no maze, or it is so.")
    void openAlready() {
        Desk desk = Desk.busy();
        String before = desk.all();
        due("open", false, desk.open(4, UP, true));
        due("open, from the other side", false, desk.open(1, DOWN, true));
        due("open, with a door", false, desk.open(3, DOWN, true));
        due("open, one-way", false, desk.open(1, RIGHT, true));
        due("open, one-way, from the other side", false, desk.open(2, LEFT, true));
        due("door and one-way stay", before, desk.all());
    }

    @Edge(of = 9, says = "false if there is no way there, or no maze, or it is so.")
    void closedAlready() {
        Desk desk = Desk.busy();
        String before = desk.all();
        due("closed", false, desk.open(0, RIGHT, false));
        due("closed, from the other side", false, desk.open(1, LEFT, false));
        due("nothing happens", before, desk.all());
    }

    /** Five columns that hang on the last row: the five cells above are dead ends. */
    private static Desk combOfFive() {
        Desk desk = Desk.closed(5, 2, 0);
        for (int x = 0; x < 5; x++) {
            desk.open(x, DOWN, true);
            desk.open(5 + x, RIGHT, true);
        }
        return desk;
    }

    @Edge(of = 10, says = "Cell by cell, in order, where just one passage is open")
    void braidInTheOrderOfCells() {
        Desk desk = combOfFive();
        due("one", 1, desk.braid(1));
        due("of cell 0", "+-+-+-+-+-+\n|S  | | | |\n+ + + + + +\n|         |\n+-+-+-+-+-+\n", desk.picture());
        due("one more", 1, desk.braid(1));
        due("of cell 2", "+-+-+-+-+-+\n|S  |   | |\n+ + + + + +\n|         |\n+-+-+-+-+-+\n", desk.picture());
        due("one more", 1, desk.braid(1));
        due("of cell 4", "+-+-+-+-+-+\n|S  |     |\n+ + + + + +\n|         |\n+-+-+-+-+-+\n", desk.picture());
        due("no more", 0, desk.braid(1));
        Desk atOnce = combOfFive();
        due("all at once", 3, atOnce.braid(3));
        due("the same", desk.picture(), atOnce.picture());
    }

    @Edge(of = 10, says = "Cell by cell, in order, where just one passage is open")
    void braidGoesOverTheCellsOnce() {
        // Cell 3 opens to cell 0, which had none: by then cell 0's turn is over.
        Desk desk = Desk.closed(3, 2, 0);
        desk.open(3, RIGHT, true);
        desk.open(4, RIGHT, true);
        desk.open(4, UP, true);
        desk.open(1, RIGHT, true);
        desk.open(2, DOWN, true);
        due("one", 1, desk.braid(9));
        due("from cell 3", "+-+-+-+\n|S|   |\n+ + + +\n|     |\n+-+-+-+\n", desk.picture());
        due("cell 0, the next time", 1, desk.braid(9));
        due("to the right", 1, desk.passage(0, RIGHT));
    }

    @Edge(of = 10, says = "where just one passage is open")
    void braidLeavesCellsWithNoOrTwoOpenPassages() {
        Desk closed = Desk.closed(3, 3, 0);
        due("none is open", 0, closed.braid(9));
        due("and none was opened", 0, closed.deadEnds());
        Desk ring = ringAroundTheMiddle();
        due("two are open", 0, ring.braid(9));
        due("the middle stays closed", 0, ring.passage(4, UP) + ring.passage(4, DOWN));
    }

    @Edge(of = 10, says = "and a way has a closed one")
    void braidLeavesDeadEndsWithoutAClosedWay() {
        Desk row = Desk.made(4, 1, 0, 0);
        due("both ends of a row", 0, row.braid(9));
        due("stay dead ends", 2, row.deadEnds());
        Desk two = Desk.made(2, 1, 0, 0);
        due("two cells", 0, two.braid(1));
        due("one cell", 0, Desk.made(1, 1, 3, 0).braid(1));
        Desk column = Desk.made(1, 4, 1, 0);
        due("a column wrapped to itself", 0, column.braid(9));
        Desk cut = new Desk(2, 2, 0).cutAll(3);
        cut.make(1, 0);
        due("beside a cut cell", 0, cut.braid(9));
    }

    @Edge(of = 10, says = "and a way has a closed one")
    void braidCountsNoDeadEndWithoutAClosedWay() {
        // Cell 0 has no other way; cell 2, above 5, has one.
        Desk desk = new Desk(3, 2, 0).cutAll(3);
        desk.make(1, 0);
        desk.openAll(false);
        desk.open(0, RIGHT, true);
        desk.open(1, DOWN, true);
        desk.open(1, RIGHT, true);
        due("three dead ends", 3, desk.deadEnds());
        due("one is opened, though cell 0 comes first", 1, desk.braid(1));
        due("of cell 2", 1, desk.passage(2, DOWN));
    }

    @Edge(of = 10, says = "the first such is opened")
    void braidOpensTheFirstByDirections() {
        String[] opened = {">", "^", "^", "^"};
        for (int open = 0; open < 4; open++) {
            Desk desk = ringAroundTheMiddle();
            desk.open(4, open, true);
            due("one", 1, desk.braid(1));
            String now = "";
            for (int d = 0; d < 4; d++) {
                now += d != open && desk.passage(4, d) == 1 ? "^>v<".substring(d, d + 1) : "";
            }
            due("beside an open " + open, opened[open], now);
        }
    }

    /** In three by three cells, those at the ends have two open passages each, the middle none. */
    private static Desk ringAroundTheMiddle() {
        Desk desk = Desk.closed(3, 3, 0);
        int[][] round = {{0, RIGHT}, {1, RIGHT}, {2, DOWN}, {5, DOWN}, {8, LEFT}, {7, LEFT}, {6, UP}, {3, UP}};
        for (int[] r : round) {
            desk.open(r[0], r[1], true);
        }
        return desk;
    }

    @Edge(of = 10, says = "the first such is opened")
    void braidOpensTheOtherPassageToTheSameNeighbour() {
        Desk desk = Desk.opened(2, 1, 1);
        desk.open(0, RIGHT, false);
        due("one", 1, desk.braid(5));
        due("both are open", 2, desk.passage(0, RIGHT) + desk.passage(0, LEFT));
        due("no dead end", 0, desk.deadEnds());
    }

    @Edge(of = 10, says = "n times at most: how many were.")
    void braidNoneOrFewerThanNone() {
        Desk desk = combOfFive();
        String before = desk.all();
        for (int n : new int[] {0, -1, -2, LEAST, LEAST + 1}) {
            due("braid(" + n + ")", 0, desk.braid(n));
        }
        due("nothing happens", before, desk.all());
    }

    @Edge(of = 10, says = "n times at most: how many were.")
    void braidAsManyAsThereAre() {
        for (int n : new int[] {1, 2, 3, 4, 144, MOST}) {
            Desk desk = combOfFive();
            due("braid(" + n + ")", Math.min(3, n), desk.braid(n));
            due("the rest", 3 - Math.min(3, n), desk.braid(MOST));
        }
    }

    @Edge(of = 10, says = "NONE without a maze")
    void braidWithoutAMaze() {
        for (NoMaze none : desksWithoutMaze()) {
            due(none.name(), NONE, none.desk().braid(1));
            due(none.name() + ", none", NONE, none.desk().braid(0));
        }
    }

    @Edge(of = 11, says = "How many cells have just one open passage")
    void noDeadEnds() {
        due("one cell", 0, Desk.made(1, 1, 3, 0).deadEnds());
        due("all closed", 0, Desk.closed(3, 3, 0).deadEnds());
        due("all open", 0, Desk.opened(3, 3, 0).deadEnds());
        Desk cut = new Desk(2, 2, 0).cutAll(0, 1, 2);
        cut.make(1, 3);
        due("one cell beside cut ones", 0, cut.deadEnds());
    }

    @Edge(of = 11, says = "How many cells have just one open passage")
    void deadEndsOfFewPassages() {
        Desk desk = Desk.closed(3, 3, 0);
        desk.open(4, UP, true);
        due("one passage, two ends", 2, desk.deadEnds());
        desk.open(4, DOWN, true);
        due("a line", 2, desk.deadEnds());
        desk.open(4, LEFT, true);
        due("a star of three", 3, desk.deadEnds());
        desk.open(4, RIGHT, true);
        due("a star of four", 4, desk.deadEnds());
        desk.door(0, 4, UP);
        desk.oneWay(4, DOWN);
        desk.oneWay(3, RIGHT);
        due("doors and one-ways are open", 4, desk.deadEnds());
        due("a row", 2, Desk.made(12, 1, 0, 5).deadEnds());
    }

    @Edge(of = 11, says = "How many cells have just one open passage")
    void deadEndsWithTheSameNeighbourOnBothSides() {
        Desk desk = Desk.opened(2, 1, 1);
        due("both passages open", 0, desk.deadEnds());
        desk.open(0, LEFT, false);
        due("one of them", 2, desk.deadEnds());
        desk.open(0, RIGHT, false);
        due("neither", 0, desk.deadEnds());
    }

    @Edge(of = 11, says = "NONE without a maze")
    void deadEndsWithoutAMaze() {
        for (NoMaze none : desksWithoutMaze()) {
            due(none.name(), NONE, none.desk().deadEnds());
        }
    }
}
