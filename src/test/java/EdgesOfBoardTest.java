/** Edges of promises 1 and 2: a new object, and cut. */
public final class EdgesOfBoardTest extends Edges {
    public static void main(String[] args) {
        new EdgesOfBoardTest().run();
    }

    private void dueSize(String name, Desk desk, int width, int height) {
        int cells = width * height;
        int bytes = (2 * width + 2) * (2 * height + 1);
        due(name + ": a cell more", NONE, desk.make(3, cells));
        due(name + ": the last cell", 1, desk.make(3, cells - 1));
        due(name + ": end of the first line", 10, desk.drawing(2 * width + 1));
        due(name + ": last byte", 10, desk.drawing(bytes - 1));
        due(name + ": a byte more", NONE, desk.drawing(bytes));
        due(name + ": right of the first cell", width > 1, desk.passage(0, RIGHT) != NONE);
        due(name + ": below the first cell", height > 1, desk.passage(0, DOWN) != NONE);
        due(name + ": right of the first row", NONE, desk.passage(width - 1, RIGHT));
        due(name + ": below the last row", NONE, desk.passage(cells - 1, DOWN));
    }

    @Edge(of = 1, says = "So many columns and rows, 1 .. 12")
    void allSizes() {
        for (int side = 1; side <= 12; side++) {
            dueSize(side + " columns", new Desk(side, 5, 0), side, 5);
            dueSize(side + " rows", new Desk(7, side, 0), 7, side);
            dueSize(side + " of both", new Desk(side, side, 0), side, side);
        }
    }

    @Edge(of = 1, says = "(what is less or more is the nearest of these)")
    void tooFewColumns() {
        for (int width : new int[] {0, -1, -2, -12, -13, -1000, LEAST + 1, LEAST}) {
            dueSize(width + " columns", new Desk(width, 5, 0), 1, 5);
        }
    }

    @Edge(of = 1, says = "(what is less or more is the nearest of these)")
    void tooManyColumns() {
        for (int width : new int[] {13, 14, 24, 144, 1000, MOST - 1, MOST}) {
            dueSize(width + " columns", new Desk(width, 5, 0), 12, 5);
        }
    }

    @Edge(of = 1, says = "(what is less or more is the nearest of these)")
    void tooFewRows() {
        for (int height : new int[] {0, -1, -2, -12, -13, -1000, LEAST + 1, LEAST}) {
            dueSize(height + " rows", new Desk(5, height, 0), 5, 1);
        }
    }

    @Edge(of = 1, says = "(what is less or more is the nearest of these)")
    void tooManyRows() {
        for (int height : new int[] {13, 14, 24, 144, 1000, MOST - 1, MOST}) {
            dueSize(height + " rows", new Desk(5, height, 0), 5, 12);
        }
    }

    @Edge(of = 1, says = "(what is less or more is the nearest of these)")
    void bothTooFewOrTooMany() {
        dueSize("0 x 0", new Desk(0, 0, 0), 1, 1);
        dueSize("13 x 13", new Desk(13, 13, 0), 12, 12);
        dueSize("least x most", new Desk(LEAST, MOST, 0), 1, 12);
        dueSize("most x least", new Desk(MOST, LEAST, 0), 12, 1);
    }

    @Edge(of = 1, says = "wrapped 0: not, 1: left and right, 2: up and down, 3: both")
    void wrapping() {
        due("0", ">v", Desk.made(4, 3, 0, 0).waysOf(0));
        due("1", ">v<", Desk.made(4, 3, 1, 0).waysOf(0));
        due("2", "^>v", Desk.made(4, 3, 2, 0).waysOf(0));
        due("3", "^>v<", Desk.made(4, 3, 3, 0).waysOf(0));
    }

    @Edge(of = 1, says = "(its lowest two bits count)")
    void higherBitsOfWrappedDoNotCount() {
        String[] ways = {">v", ">v<", "^>v", "^>v<"};
        for (int wrapped : new int[] {4, 5, 6, 7, 8, 9, 10, 11, 256, 1 << 30, (1 << 30) + 1, MOST - 1, MOST}) {
            due("wrapped " + wrapped, ways[wrapped % 4], Desk.made(4, 3, wrapped, 0).waysOf(0));
        }
        due("wrapped -1", ways[3], Desk.made(4, 3, -1, 0).waysOf(0));
        due("wrapped -2", ways[2], Desk.made(4, 3, -2, 0).waysOf(0));
        due("wrapped -3", ways[1], Desk.made(4, 3, -3, 0).waysOf(0));
        due("wrapped -4", ways[0], Desk.made(4, 3, -4, 0).waysOf(0));
        due("the least", ways[0], Desk.made(4, 3, LEAST, 0).waysOf(0));
        due("the least but 1", ways[1], Desk.made(4, 3, LEAST + 1, 0).waysOf(0));
    }

    @Edge(of = 1, says = "Nothing is cut")
    void nothingIsCutAtFirst() {
        Desk desk = new Desk(12, 12, 0);
        for (int cell = 0; cell < 144; cell++) {
            due("cell " + cell + " is not cut already", false, desk.cut(cell, false));
        }
        due("all cells count", 16, countedCells(new Desk(4, 4, 0)));
        due("none is drawn as cut", -1, Desk.made(4, 4, 0, 0).picture().indexOf('#'));
    }

    /** How many cells can be the root. */
    private static int countedCells(Desk desk) {
        int count = 0;
        for (int cell = -1; cell <= desk.cells(); cell++) {
            count += desk.make(1, cell) == 1 ? 1 : 0;
        }
        return count;
    }

    @Edge(of = 1, says = "there is no maze")
    void noMazeAtFirst() {
        dueNoMaze("new", new Desk(3, 3, 3), 4, RIGHT);
        dueNoMaze("new, of one cell", new Desk(1, 1, 0), 0, RIGHT);
        dueNoMaze("new, of 144 cells", new Desk(12, 12, 0), 0, RIGHT);
    }

    @Edge(of = 2, says = "A cell is cut, or not, and there is no maze: true")
    void cutAndNotCut() {
        Desk desk = new Desk(3, 2, 0);
        for (int cell : new int[] {0, 2, 5}) {
            due("cut", true, desk.cut(cell, true));
            due("can't be the root", NONE, desk.make(1, cell));
            due("cut no more", true, desk.cut(cell, false));
            due("can be the root", 1, desk.make(1, cell));
        }
    }

    @Edge(of = 2, says = "and there is no maze: true")
    void noMazeAfterACut() {
        Desk desk = Desk.busy();
        due("cut", true, desk.cut(5, true));
        dueNoMaze("after a cut", desk, 4, UP);
    }

    @Edge(of = 2, says = "and there is no maze: true")
    void noMazeAfterACellIsCutNoMore() {
        Desk desk = Desk.busy();
        due("cut no more", true, desk.cut(8, false));
        dueNoMaze("after that", desk, 4, RIGHT);
        due("nor after both", true, desk.cut(8, true));
        dueNoMaze("after both", desk, 4, RIGHT);
    }

    @Edge(of = 2, says = "and there is no maze: true")
    void startExitAndThePlayersCellMayBeCut() {
        for (int cell : new int[] {4, 6, 3, 0}) {
            Desk desk = Desk.busy();
            due("cut", true, desk.cut(cell, true));
            dueNoMaze("after cell " + cell + " was cut", desk, 2, DOWN);
        }
    }

    @Edge(of = 2, says = "false, and nothing happens, if it is so already")
    void cutAlready() {
        Desk desk = Desk.busy();
        String before = desk.all();
        due("cut already", false, desk.cut(8, true));
        due("nothing happens", before, desk.all());
        Desk none = new Desk(2, 1, 0);
        due("once", true, none.cut(0, true));
        due("twice", false, none.cut(0, true));
        due("one cell is left", 1, none.trees());
        due("and the other is still cut", NONE, none.make(1, 0));
    }

    @Edge(of = 2, says = "false, and nothing happens, if it is so already")
    void notCutAlready() {
        Desk desk = Desk.busy();
        String before = desk.all();
        due("not cut", false, desk.cut(0, false));
        due("the start", false, desk.cut(4, false));
        due("nothing happens", before, desk.all());
        Desk none = new Desk(4, 4, 0);
        due("not cut", false, none.cut(15, false));
        due("sixteen cells still", 100352, none.trees());
    }

    @Edge(of = 2, says = "false, and nothing happens, if it is so already, or there is none such.")
    void noSuchCellToCut() {
        Desk desk = Desk.busy();
        String before = desk.all();
        due("before the first", false, desk.cut(-1, true) || desk.cut(-1, false));
        due("after the last", false, desk.cut(9, true) || desk.cut(9, false));
        for (int cell : FAR_OFF) {
            due("far off, " + cell, false, desk.cut(cell, true) || desk.cut(cell, false));
        }
        due("nothing happens", before, desk.all());
        due("on the smallest board", false, new Desk(1, 1, 3).cut(1, true));
        due("on the largest board", false, new Desk(12, 12, 3).cut(144, true));
        due("its last cell", true, new Desk(12, 12, 3).cut(143, true));
    }

    @Edge(of = 2, says = "A cell is cut, or not")
    void allCellsMayBeCut() {
        Desk desk = new Desk(2, 2, 0);
        for (int cell = 0; cell < 4; cell++) {
            due("cut " + cell, true, desk.cut(cell, true));
        }
        due("no cell", NONE, desk.trees());
        for (int cell = 0; cell < 4; cell++) {
            due("no root " + cell, NONE, desk.make(1, cell));
            due("cut already", false, desk.cut(cell, true));
        }
        for (int cell = 0; cell < 4; cell++) {
            due("cut no more", true, desk.cut(cell, false));
        }
        due("as new", 4, desk.trees());
        due("maze", 1, desk.make(1, 0));
    }
}
