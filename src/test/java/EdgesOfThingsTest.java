/** Edges of promises 12 to 16: key, door, oneWay, start, exit. */
public final class EdgesOfThingsTest extends Edges {
    private static final int[][] NO_WAYS = {{1, UP}, {5, RIGHT}, {7, DOWN}, {3, LEFT}, {5, DOWN}, {7, RIGHT}, {8, UP},
        {8, LEFT}, {8, RIGHT}, {8, DOWN}, {-1, RIGHT}, {9, LEFT}, {-1, 5}, {9, -1}, {4, 4}, {4, -1}};

    public static void main(String[] args) {
        new EdgesOfThingsTest().run();
    }

    /** The keys that lie in a cell. Moves start and player there. */
    private static int keysIn(Desk desk, int cell) {
        desk.start(cell);
        return desk.player(1);
    }

    @Edge(of = 12, says = "Key k lies in a cell, or nowhere (-1): true")
    void keysInCells() {
        for (int k = 0; k < 4; k++) {
            Desk desk = Desk.made(3, 1, 0, 0);
            due("in the first cell", true, desk.key(k, 0));
            due("there", 1 << k, keysIn(desk, 0));
            due("in the last cell", true, desk.key(k, 2));
            due("there", 1 << k, keysIn(desk, 2));
            due("and not in the first any more", 0, keysIn(desk, 0));
        }
    }

    @Edge(of = 12, says = "or nowhere (-1): true")
    void keysNowhere() {
        for (int k = 0; k < 4; k++) {
            Desk desk = Desk.made(3, 1, 0, 0);
            due("nowhere, as it is", true, desk.key(k, NONE));
            desk.key(k, 1);
            due("nowhere", true, desk.key(k, NONE));
            due("in no cell", 0, keysIn(desk, 0) | keysIn(desk, 1) | keysIn(desk, 2));
            due("nowhere again", true, desk.key(k, NONE));
        }
    }

    @Edge(of = 12, says = "Key k lies in a cell, or nowhere (-1): true")
    void aKeyThatLiesThereAlready() {
        Desk desk = Desk.busy();
        String before = desk.all();
        due("as it is", true, desk.key(0, 2));
        due("nothing changes", before, desk.all());
    }

    @Edge(of = 12, says = "Key k lies in a cell, or nowhere (-1): true")
    void keysAtStartAndExit() {
        Desk desk = Desk.busy();
        due("at the start", true, desk.key(3, 4));
        due("at the exit", true, desk.key(2, 6));
        due("had at the start", 8, keysIn(desk, 4));
        due("had at the exit", 4, keysIn(desk, 6));
    }

    @Edge(of = 12, says = "false if there is no such key")
    void noSuchKeyToPut() {
        Desk desk = Desk.busy();
        String before = desk.all();
        due("key -1", false, desk.key(-1, 5) || desk.key(-1, NONE));
        for (int k : NO_KEYS) {
            due("key " + k, false, desk.key(k, 5));
            due("key " + k + " nowhere", false, desk.key(k, NONE));
        }
        due("nothing happens", before, desk.all());
        due("no key in cell 5", 0, keysIn(desk, 5));
    }

    @Edge(of = 12, says = "false if there is no such key or cell")
    void noSuchCellForAKey() {
        Desk desk = Desk.busy();
        String before = desk.all();
        for (int k = 0; k < 4; k++) {
            due("cell 9", false, desk.key(k, 9));
            for (int cell : FAR_OFF) {
                due("cell " + cell, false, desk.key(k, cell));
            }
        }
        due("nothing happens", before, desk.all());
        due("on the smallest board", false, Desk.made(1, 1, 3, 0).key(0, 1));
        due("on the largest board", false, Desk.made(12, 12, 3, 0).key(0, 144));
        due("its last cell", true, Desk.made(12, 12, 3, 0).key(0, 143));
    }

    @Edge(of = 12, says = "it is cut")
    void aKeyInACutCell() {
        Desk desk = Desk.busy();
        String before = desk.all();
        for (int k = 0; k < 4; k++) {
            due("key " + k, false, desk.key(k, 8));
        }
        due("nothing happens", before, desk.all());
    }

    @Edge(of = 12, says = "or there is no maze")
    void keyWithoutAMaze() {
        for (NoMaze none : desksWithoutMaze()) {
            due(none.name(), false, none.desk().key(0, none.cell()));
            due(none.name() + ", nowhere", false, none.desk().key(0, NONE));
        }
    }

    @Edge(of = 13, says = "An open passage has a door of key k, or none (-1): true")
    void doorsOfEachKeyFromBothSides() {
        for (int k = 0; k < 4; k++) {
            Desk desk = Desk.made(3, 1, 0, 0);
            due("a door", true, desk.door(k, 1, LEFT));
            due("drawn", 'a' + k, desk.drawing(8 + 2));
            due("as it is, from the other side", true, desk.door(k, 0, RIGHT));
            due("drawn", 'a' + k, desk.drawing(8 + 2));
            due("another's", true, desk.door(3 - k, 0, RIGHT));
            due("drawn", 'a' + 3 - k, desk.drawing(8 + 2));
            due("the next passage has none", ' ', desk.drawing(8 + 4));
        }
    }

    @Edge(of = 13, says = "or none (-1): true")
    void noDoor() {
        Desk desk = Desk.made(3, 1, 0, 0);
        due("none, as it is", true, desk.door(NONE, 0, RIGHT));
        desk.door(1, 0, RIGHT);
        due("shut", false, desk.walk(RIGHT));
        due("none", true, desk.door(NONE, 1, LEFT));
        due("open", true, desk.walk(RIGHT));
        due("still open", 1, desk.passage(0, RIGHT));
    }

    @Edge(of = 13, says = "An open passage has a door of key k")
    void aDoorOnOneOfTwoPassagesToTheSameNeighbour() {
        Desk desk = Desk.opened(2, 1, 1);
        due("a door", true, desk.door(2, 0, LEFT));
        due("drawn", "+-+-+\ncS  c\n+-+-+\n", desk.picture());
        due("shut", false, desk.walk(LEFT));
        due("the other is open", true, desk.walk(RIGHT));
        due("shut from there too", false, desk.walk(RIGHT));
    }

    @Edge(of = 13, says = "An open passage has a door of key k")
    void aDoorKeepsAOneWay() {
        Desk desk = Desk.made(2, 1, 0, 0);
        desk.oneWay(1, LEFT);
        desk.door(0, 0, RIGHT);
        desk.door(NONE, 0, RIGHT);
        due("still one-way", '<', desk.drawing(6 + 2));
        desk.door(0, 0, RIGHT);
        desk.oneWay(1, LEFT);
        due("still a door", 'a', desk.drawing(6 + 2));
    }

    @Edge(of = 13, says = "false if there is no such key")
    void noSuchKeyForADoor() {
        Desk desk = Desk.busy();
        String before = desk.all();
        for (int k : NO_KEYS) {
            due("key " + k, false, desk.door(k, 4, UP));
            due("key " + k + " on a door", false, desk.door(k, 3, DOWN));
        }
        due("nothing happens", before, desk.all());
    }

    @Edge(of = 13, says = "the passage is not open")
    void noDoorInAClosedPassage() {
        Desk desk = Desk.busy();
        String before = desk.all();
        for (int k = -1; k < 4; k++) {
            due("closed, door " + k, false, desk.door(k, 0, RIGHT));
            due("closed, from the other side", false, desk.door(k, 1, LEFT));
        }
        due("nothing happens", before, desk.all());
        desk.open(0, RIGHT, true);
        due("opened, it has none", ' ', desk.drawing(8 + 2));
    }

    @Edge(of = 13, says = "the passage is not open")
    void noDoorWhereThereIsNoWay() {
        Desk desk = Desk.busy();
        String before = desk.all();
        for (int[] n : NO_WAYS) {
            due("door at " + n[0] + ", " + n[1], false, desk.door(3, n[0], n[1]));
            due("none at " + n[0] + ", " + n[1], false, desk.door(NONE, n[0], n[1]));
        }
        for (int d : NO_DIRECTIONS) {
            due("direction " + d, false, desk.door(3, 4, d));
        }
        for (int cell : FAR_OFF) {
            due("cell " + cell, false, desk.door(3, cell, UP) || desk.door(3, cell, RIGHT)
                    || desk.door(3, cell, DOWN) || desk.door(3, cell, LEFT));
        }
        due("nothing happens", before, desk.all());
    }

    @Edge(of = 13, says = "or there is no maze")
    void doorWithoutAMaze() {
        for (NoMaze none : desksWithoutMaze()) {
            due(none.name(), false, none.desk().door(0, none.cell(), none.direction()));
            due(none.name() + ", no door", false, none.desk().door(NONE, none.cell(), none.direction()));
        }
    }

    @Edge(of = 14, says = "An open passage can be walked from this side alone")
    void oneWayInEachDirection() {
        int[] beside = {1, 5, 7, 3};
        for (int d = 0; d < 4; d++) {
            Desk desk = Desk.opened(3, 3, 0);
            due("one-way", true, desk.oneWay(4, d));
            due("along it", true, desk.start(4) && desk.walk(d));
            due("there", beside[d], desk.player(0));
            due("against it", false, desk.walk((d + 2) % 4));
            due("it is open still", 1, desk.passage(4, d));
            for (int other = 0; other < 4; other++) {
                due("other passages", other != d, desk.start(beside[other]) && desk.walk((other + 2) % 4));
            }
        }
    }

    @Edge(of = 14, says = "or, if it is so already, from both: true")
    void oneWayTwiceIsBothWays() {
        int[] beside = {1, 5, 7, 3};
        for (int d = 0; d < 4; d++) {
            Desk desk = Desk.opened(3, 3, 0);
            due("once", true, desk.oneWay(4, d));
            due("twice", true, desk.oneWay(4, d));
            due("along", true, desk.start(4) && desk.walk(d));
            due("and back", true, desk.walk((d + 2) % 4));
            due("thrice", true, desk.oneWay(4, d));
            due("against it", false, desk.start(beside[d]) && desk.walk((d + 2) % 4));
        }
    }

    @Edge(of = 14, says = "An open passage can be walked from this side alone")
    void oneWayFromTheOtherSideTurnsItRound() {
        Desk desk = Desk.made(2, 1, 0, 0);
        due("to the left", true, desk.oneWay(1, LEFT));
        due("to the right", true, desk.oneWay(0, RIGHT));
        due("drawn", '>', desk.drawing(6 + 2));
        due("there", true, desk.walk(RIGHT));
        due("not back", false, desk.walk(LEFT));
    }

    @Edge(of = 14, says = "An open passage can be walked from this side alone")
    void oneWayOnOneOfTwoPassagesToTheSameNeighbour() {
        Desk desk = Desk.opened(2, 1, 1);
        due("0 left", true, desk.oneWay(0, LEFT));
        due("drawn", "+-+-+\n<S  <\n+-+-+\n", desk.picture());
        due("along it", true, desk.walk(LEFT));
        due("against it", false, desk.walk(RIGHT));
        due("by the other", true, desk.walk(LEFT));
        due("back by the other", true, desk.walk(RIGHT));
        Desk column = Desk.opened(1, 2, 2);
        due("1 down", true, column.oneWay(1, DOWN));
        due("drawn", "+v+\n|S|\n+ +\n| |\n+v+\n", column.picture());
        due("against it", false, column.walk(UP));
        due("by the other, and along it", true, column.walk(DOWN) && column.walk(DOWN));
        due("back", 0, column.player(0));
    }

    @Edge(of = 14, says = "false if it is not open")
    void noOneWayWhereItIsNotOpen() {
        Desk desk = Desk.busy();
        String before = desk.all();
        due("closed", false, desk.oneWay(0, RIGHT));
        due("closed, from the other side", false, desk.oneWay(1, LEFT));
        for (int[] n : NO_WAYS) {
            due("no way at " + n[0] + ", " + n[1], false, desk.oneWay(n[0], n[1]));
        }
        for (int d : NO_DIRECTIONS) {
            due("direction " + d, false, desk.oneWay(4, d));
        }
        for (int cell : FAR_OFF) {
            due("cell " + cell, false, desk.oneWay(cell, UP) || desk.oneWay(cell, RIGHT)
                    || desk.oneWay(cell, DOWN) || desk.oneWay(cell, LEFT));
        }
        due("nothing happens", before, desk.all());
        desk.open(0, RIGHT, true);
        due("opened, it is not one-way", ' ', desk.drawing(8 + 2));
    }

    @Edge(of = 14, says = "or there is no maze")
    void oneWayWithoutAMaze() {
        for (NoMaze none : desksWithoutMaze()) {
            due(none.name(), false, none.desk().oneWay(none.cell(), none.direction()));
        }
    }

    @Edge(of = 15, says = "The start is a cell, and the player is there anew: true")
    void thePlayerIsAtTheNewStart() {
        Desk desk = Desk.busy();
        due("before", "4/2/2", desk.playerTold());
        due("start", true, desk.start(2));
        due("with the keys there alone", "2/1/0", desk.playerTold());
        due("drawn", 'S', desk.drawing(8 + 5));
        due("not where it was", ' ', desk.drawing(24 + 3));
    }

    @Edge(of = 15, says = "The start is a cell, and the player is there anew: true")
    void theSameStartAnew() {
        Desk desk = Desk.busy();
        desk.walk(RIGHT);
        due("before", "5/2/3", desk.playerTold());
        due("the same start", true, desk.start(4));
        due("anew", "4/0/0", desk.playerTold());
        due("and once more", true, desk.start(4));
    }

    @Edge(of = 15, says = "The start is a cell")
    void theStartMayBeAnyCell() {
        Desk desk = Desk.busy();
        for (int cell = 0; cell < 8; cell++) {
            due("start " + cell, true, desk.start(cell));
            due("the player", cell, desk.player(0));
        }
        due("at the exit, no step is needed", true, desk.start(6) && desk.escape() == 0);
        due("the last of the largest board", true, Desk.made(12, 12, 0, 0).start(143));
    }

    @Edge(of = 15, says = "false if there is none such")
    void noSuchStart() {
        Desk desk = Desk.busy();
        String before = desk.all();
        due("-1", false, desk.start(NONE));
        due("9", false, desk.start(9));
        for (int cell : FAR_OFF) {
            due("cell " + cell, false, desk.start(cell));
        }
        due("nothing happens", before, desk.all());
        due("on the smallest board", false, Desk.made(1, 1, 3, 0).start(1));
        due("on the largest board", false, Desk.made(12, 12, 3, 0).start(144));
    }

    @Edge(of = 15, says = "it is cut")
    void aCutStart() {
        Desk desk = Desk.busy();
        String before = desk.all();
        due("cut", false, desk.start(8));
        due("nothing happens", before, desk.all());
    }

    @Edge(of = 15, says = "or there is no maze")
    void startWithoutAMaze() {
        for (NoMaze none : desksWithoutMaze()) {
            due(none.name(), false, none.desk().start(none.cell()));
        }
    }

    @Edge(of = 16, says = "The exit is a cell, or none (-1): true")
    void theExitMayBeAnyCell() {
        Desk desk = Desk.opened(3, 3, 0);
        int[] steps = {0, 1, 2, 1, 2, 3, 2, 3, 4};
        for (int cell = 0; cell < 9; cell++) {
            due("exit " + cell, true, desk.exit(cell));
            due("so far", steps[cell], desk.escape());
            due("the same", true, desk.exit(cell));
        }
        due("it is drawn once", "+-+-+-+\n|S    |\n+ + + +\n|     |\n+ + + +\n|    E|\n+-+-+-+\n", desk.picture());
    }

    @Edge(of = 16, says = "or none (-1): true")
    void noExit() {
        Desk desk = Desk.busy();
        due("none", true, desk.exit(NONE));
        due("no escape", NONE, desk.escape());
        due("no keys placed", NONE, desk.placeKeys(1));
        due("not drawn", -1, desk.picture().indexOf('E'));
        due("none, as it is", true, desk.exit(NONE));
    }

    @Edge(of = 16, says = "false if there is none such")
    void noSuchExit() {
        Desk desk = Desk.busy();
        String before = desk.all();
        due("9", false, desk.exit(9));
        for (int cell : FAR_OFF) {
            due("cell " + cell, false, desk.exit(cell));
        }
        due("nothing happens", before, desk.all());
        due("on the smallest board", false, Desk.made(1, 1, 3, 0).exit(1));
        due("on the largest board", false, Desk.made(12, 12, 3, 0).exit(144));
        due("its last cell", true, Desk.made(12, 12, 3, 0).exit(143));
    }

    @Edge(of = 16, says = "it is cut")
    void aCutExit() {
        Desk desk = Desk.busy();
        String before = desk.all();
        due("cut", false, desk.exit(8));
        due("nothing happens", before, desk.all());
    }

    @Edge(of = 16, says = "or there is no maze")
    void exitWithoutAMaze() {
        for (NoMaze none : desksWithoutMaze()) {
            due(none.name(), false, none.desk().exit(none.cell()));
            due(none.name() + ", no exit", false, none.desk().exit(NONE));
        }
    }
}
