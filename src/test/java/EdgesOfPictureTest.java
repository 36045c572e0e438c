/** Edges of promise 23: drawing. */
public final class EdgesOfPictureTest extends Edges {
    public static void main(String[] args) {
        new EdgesOfPictureTest().run();
    }

    @Edge(of = 23, says = "Byte i of THE DRAWING, NONE if there is none")
    void noSuchByte() {
        Desk desk = Desk.busy();
        due("byte -1", NONE, desk.drawing(-1));
        due("byte 0", '+', desk.drawing(0));
        due("byte 55", 10, desk.drawing(55));
        due("byte 56", NONE, desk.drawing(56));
        for (int i : FAR_OFF) {
            due("byte " + i, NONE, desk.drawing(i));
        }
        Desk largest = Desk.made(12, 12, 0, 0);
        due("the largest: byte 649", 10, largest.drawing(649));
        due("the largest: byte 648", '+', largest.drawing(648));
        due("the largest: byte 650", NONE, largest.drawing(650));
    }

    @Edge(of = 23, says = "or no maze")
    void drawingWithoutAMaze() {
        for (NoMaze none : desksWithoutMaze()) {
            for (int i = 0; i < 10; i++) {
                due(none.name(), NONE, none.desk().drawing(i));
            }
        }
    }

    @Edge(of = 23, says = "2 * height + 1 lines of 2 * width + 1 signs and a byte 10")
    void linesOfEachSize() {
        due("the smallest", "+-+\n|S|\n+-+\n", Desk.made(1, 1, 0, 0).picture());
        due("a row", "+-+-+-+\n|S    |\n+-+-+-+\n", Desk.made(3, 1, 0, 0).picture());
        due("a column", "+-+\n|S|\n+ +\n| |\n+ +\n| |\n+-+\n", Desk.made(1, 3, 0, 0).picture());
        Desk wide = Desk.made(12, 1, 0, 0);
        due("the widest", 3 * 26, wide.picture().length());
        Desk high = Desk.made(1, 12, 0, 0);
        due("the highest", 25 * 4, high.picture().length());
        Desk both = Desk.made(12, 12, 0, 0);
        for (int line = 0; line < 25; line++) {
            due("line " + line, true, both.drawing(26 * line + 25) == 10 && both.drawing(26 * line + 24) != 10
                    && both.drawing(26 * line) == (line % 2 == 0 ? '+' : '|'));
        }
    }

    @Edge(of = 23, says = "a cell: # if it is cut")
    void cutCells() {
        Desk desk = new Desk(3, 1, 1).cutAll(1);
        desk.make(1, 0);
        due("between, joined over the ends", "+-+-+-+\n S|#|  \n+-+-+-+\n", desk.picture());
        Desk most = new Desk(2, 2, 3).cutAll(0, 1, 3);
        most.make(1, 2);
        due("all but one", "+-+-+\n|#|#|\n+-+-+\n|S|#|\n+-+-+\n", most.picture());
    }

    @Edge(of = 23, says = "else S at the start, else E at the exit")
    void theStartBeforeTheExit() {
        Desk desk = Desk.made(2, 1, 0, 0);
        desk.exit(0);
        due("both in one cell", "+-+-+\n|S  |\n+-+-+\n", desk.picture());
        desk.start(1);
        due("each in its own", "+-+-+\n|E S|\n+-+-+\n", desk.picture());
        desk.walk(LEFT);
        due("wherever the player is", "+-+-+\n|E S|\n+-+-+\n", desk.picture());
    }

    @Edge(of = 23, says = "else E at the exit, else the lowest key there (0 .. 3), else a blank")
    void startAndExitBeforeKeys() {
        Desk desk = Desk.made(3, 1, 0, 0);
        desk.exit(1);
        desk.key(0, 0);
        desk.key(1, 1);
        desk.key(2, 2);
        due("start, exit, key", "+-+-+-+\n|S E 2|\n+-+-+-+\n", desk.picture());
        desk.exit(NONE);
        due("no exit", "+-+-+-+\n|S 1 2|\n+-+-+-+\n", desk.picture());
        desk.start(2);
        due("another start", "+-+-+-+\n|0 1 S|\n+-+-+-+\n", desk.picture());
        desk.key(1, NONE);
        due("no key", "+-+-+-+\n|0   S|\n+-+-+-+\n", desk.picture());
    }

    @Edge(of = 23, says = "else the lowest key there (0 .. 3)")
    void theLowestOfSeveralKeys() {
        Desk desk = Desk.made(2, 1, 0, 0);
        for (int k = 3; k >= 0; k--) {
            desk.key(k, 1);
            due("from " + k + " on", '0' + k, desk.drawing(6 + 3));
        }
        for (int k = 0; k < 4; k++) {
            desk.key(k, NONE);
            due("without " + k, k == 3 ? ' ' : '1' + k, desk.drawing(6 + 3));
        }
    }

    @Edge(of = 23, says = "Both even: +.")
    void crosses() {
        Desk desk = Desk.opened(2, 2, 3);
        for (int y = 0; y <= 4; y += 2) {
            for (int x = 0; x <= 4; x += 2) {
                due("sign " + x + " of line " + y, '+', desk.drawing(6 * y + x));
            }
        }
    }

    @Edge(of = 23, says = "closed, or none: - (y even) or | (x even)")
    void wallsAtTheEndsAndBetween() {
        due("all closed", "+-+-+\n|S| |\n+-+-+\n| | |\n+-+-+\n", Desk.closed(2, 2, 0).picture());
        due("all closed, wrapped", "+-+-+\n|S| |\n+-+-+\n| | |\n+-+-+\n", Desk.closed(2, 2, 3).picture());
        due("all open, not wrapped", "+-+-+\n|S  |\n+ + +\n|   |\n+-+-+\n", Desk.opened(2, 2, 0).picture());
        due("all open, wrapped to itself", "+-+-+\n|S  |\n+-+-+\n", Desk.opened(2, 1, 2).picture());
    }

    @Edge(of = 23, says = "the passage up of the cell below or down of the one above (y even), left of the cell to the "
            + "right or right of the one to the left (x even; the first of these two cells that is on the board at this "
            + "very place)")
    void openOverTheEndsIsDrawnAtBoth() {
        due("left and right", "+-+-+\n S   \n+ + +\n     \n+-+-+\n", Desk.opened(2, 2, 1).picture());
        due("up and down", "+ + +\n|S  |\n+ + +\n|   |\n+ + +\n", Desk.opened(2, 2, 2).picture());
        Desk desk = Desk.closed(3, 3, 3);
        desk.open(3, LEFT, true);
        desk.open(7, DOWN, true);
        due("one of each", "+-+ +-+\n|S| | |\n+-+-+-+\n  | |  \n+-+-+-+\n| | | |\n+-+ +-+\n", desk.picture());
    }

    @Edge(of = 23, says = "(x even; the first of these two cells that is on the board at this very place)")
    void twoPassagesToTheSameNeighbourAreDrawnEachInItsPlace() {
        Desk row = Desk.closed(2, 1, 1);
        row.open(1, RIGHT, true);
        due("over the end", "+-+-+\n S|  \n+-+-+\n", row.picture());
        row.open(1, RIGHT, false);
        row.open(1, LEFT, true);
        due("in the middle", "+-+-+\n|S  |\n+-+-+\n", row.picture());
        Desk column = Desk.closed(1, 2, 2);
        column.open(0, UP, true);
        due("over the end", "+ +\n|S|\n+-+\n| |\n+ +\n", column.picture());
        column.open(0, UP, false);
        column.open(0, DOWN, true);
        due("in the middle", "+-+\n|S|\n+ +\n| |\n+-+\n", column.picture());
    }

    @Edge(of = 23, says = "closed, or none: - (y even) or | (x even)")
    void wallsAroundCutCells() {
        Desk desk = new Desk(3, 3, 3).cutAll(4);
        desk.make(1, 0);
        desk.openAll(true);
        due("in the middle", "+ + + +\n S     \n+ +-+ +\n  |#|  \n+ +-+ +\n       \n+ + + +\n", desk.picture());
        Desk corner = new Desk(3, 3, 3).cutAll(0);
        corner.make(1, 8);
        corner.openAll(true);
        due("in a corner, at both ends", "+-+ + +\n|#|   |\n+-+ + +\n       \n+ + + +\n     S \n+-+ + +\n",
                corner.picture());
    }

    @Edge(of = 23, says = "open: a to d for a door of key 0 to 3")
    void doorsOfEachKey() {
        Desk desk = Desk.made(5, 1, 0, 0);
        for (int k = 0; k < 4; k++) {
            desk.door(k, k, RIGHT);
        }
        due("in a row", "+-+-+-+-+-+\n|Sa b c d |\n+-+-+-+-+-+\n", desk.picture());
        Desk column = Desk.made(1, 5, 0, 0);
        for (int k = 0; k < 4; k++) {
            column.door(3 - k, k, DOWN);
        }
        due("in a column", "+-+\n|S|\n+d+\n| |\n+c+\n| |\n+b+\n| |\n+a+\n| |\n+-+\n", column.picture());
    }

    @Edge(of = 23, says = "open: a to d for a door of key 0 to 3, else ^ > v < for one that can be walked in that "
            + "direction alone, else a blank.")
    void doorsBeforeOneWays() {
        Desk desk = Desk.made(2, 1, 0, 0);
        due("neither", ' ', desk.drawing(6 + 2));
        desk.oneWay(0, RIGHT);
        due("one-way", '>', desk.drawing(6 + 2));
        desk.door(1, 0, RIGHT);
        due("both", 'b', desk.drawing(6 + 2));
        desk.oneWay(0, RIGHT);
        due("a door", 'b', desk.drawing(6 + 2));
        desk.door(NONE, 0, RIGHT);
        due("neither again", ' ', desk.drawing(6 + 2));
    }

    @Edge(of = 23, says = "else ^ > v < for one that can be walked in that direction alone")
    void oneWaysInEachDirection() {
        Desk desk = Desk.opened(3, 3, 0);
        for (int d = 0; d < 4; d++) {
            desk.oneWay(4, d);
        }
        due("out of the middle", "+-+-+-+\n|S    |\n+ +^+ +\n| < > |\n+ +v+ +\n|     |\n+-+-+-+\n", desk.picture());
        desk.oneWay(1, DOWN);
        desk.oneWay(3, RIGHT);
        desk.oneWay(5, LEFT);
        desk.oneWay(7, UP);
        due("into the middle", "+-+-+-+\n|S    |\n+ +v+ +\n| > < |\n+ +^+ +\n|     |\n+-+-+-+\n", desk.picture());
    }

    @Edge(of = 23, says = "else ^ > v < for one that can be walked in that direction alone")
    void oneWaysAndDoorsOverTheEnds() {
        Desk desk = Desk.opened(2, 2, 3);
        desk.oneWay(0, UP);
        desk.oneWay(3, DOWN);
        desk.oneWay(0, LEFT);
        desk.oneWay(3, RIGHT);
        due("the same sign at both ends", "+^+v+\n<S  <\n+ + +\n>   >\n+^+v+\n", desk.picture());
        desk.door(1, 2, DOWN);
        desk.door(2, 1, RIGHT);
        due("doors too", "+b+v+\ncS  c\n+ + +\n>   >\n+b+v+\n", desk.picture());
    }

    @Edge(of = 23, says = "closed, or none: - (y even) or | (x even); open: a to d for a door of key 0 to 3")
    void somethingOfEverything() {
        due("all signs", Desk.BUSY_PICTURE, Desk.busy().picture());
    }
}
