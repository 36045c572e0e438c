/** Edges of promises 18 to 22: escape, step, walk, again, player. */
public final class EdgesOfWalksTest extends Edges {
    public static void main(String[] args) {
        new EdgesOfWalksTest().run();
    }

    @Edge(of = 18, says = "How many steps the shortest escape has")
    void theExitIsTheStart() {
        Desk desk = Desk.closed(3, 1, 0);
        desk.exit(0);
        due("no step, though all is closed", 0, desk.escape());
        Desk one = Desk.made(1, 1, 3, 0);
        one.exit(0);
        due("one cell", 0, one.escape());
    }

    @Edge(of = 18, says = "How many steps the shortest escape has")
    void theLongestEscapes() {
        Desk snake = Desk.made(12, 1, 0, 0);
        snake.exit(11);
        due("a row", 11, snake.escape());
        Desk keys = Desk.made(12, 1, 0, 6);
        keys.exit(11);
        keys.door(0, 8, RIGHT);
        keys.key(0, 4);
        keys.door(1, 4, LEFT);
        keys.key(1, 8);
        due("to and fro", 2 + 7, keys.escape());
        keys.key(0, 3);
        due("farther", 2 + 5 + 8, keys.escape());
        keys.door(2, 9, RIGHT);
        keys.key(2, 0);
        due("to an end", 2 + 8 + 11, keys.escape());
        keys.door(3, 2, LEFT);
        keys.key(3, 9);
        due("and to it once more", 2 + 5 + 6 + 9 + 11, keys.escape());
    }

    /** One winding row of all 144 cells, in which each key lies at the other end than its door is. */
    @Edge(of = 18, says = "How many steps the shortest escape has")
    void anEscapeFarLongerThanTheBoard() {
        Desk desk = Desk.made(12, 12, 0, 0);
        for (int cell = 0; cell < 144; cell++) {
            if (cell % 12 < 11) {
                desk.open(cell, RIGHT, true);
            }
            if (cell < 132) {
                desk.open(cell, DOWN, onSnake(cell / 12 * 12 + 11) == cell);
            }
        }
        desk.start(onSnake(2));
        desk.key(0, onSnake(141));
        desk.door(0, onSnake(1), RIGHT);
        desk.key(1, onSnake(1));
        desk.door(1, onSnake(142), RIGHT);
        desk.key(2, onSnake(142));
        desk.door(2, onSnake(0), RIGHT);
        desk.key(3, onSnake(0));
        desk.door(3, onSnake(143), RIGHT);
        desk.exit(onSnake(143));
        due("five times along it", 139 + 140 + 141 + 142 + 143, desk.escape());
        due("from the start", RIGHT, desk.step(0));
        due("the last to the right in row 0", RIGHT, desk.step(8));
        due("down from it", DOWN, desk.step(9));
        due("to the left in row 1", LEFT, desk.step(10));
        due("to key 0", LEFT, desk.step(138));
        due("and back", RIGHT, desk.step(139));
        due("to key 1", LEFT, desk.step(278));
        due("and back", RIGHT, desk.step(279));
        due("to key 3", LEFT, desk.step(561));
        due("and back", RIGHT, desk.step(562));
        due("the last", LEFT, desk.step(704));
        due("no more", NONE, desk.step(705));
    }

    /** The cell of the winding row: to the right in even rows, to the left in odd ones. */
    private static int onSnake(int number) {
        int row = number / 12;
        return row % 2 == 0 ? number : row * 12 + 11 - number % 12;
    }

    @Edge(of = 18, says = "How many steps the shortest escape has")
    void overTheEndsIsShorter() {
        Desk row = Desk.opened(12, 1, 0);
        row.exit(11);
        due("a row", 11, row.escape());
        Desk ring = Desk.opened(12, 1, 1);
        ring.exit(11);
        due("a ring", 1, ring.escape());
        ring.exit(6);
        due("half of it", 6, ring.escape());
        Desk torus = Desk.opened(5, 5, 3);
        torus.exit(24);
        due("over two ends", 2, torus.escape());
    }

    @Edge(of = 18, says = "How many steps the shortest escape has")
    void theShortestAsThingsAreNow() {
        Desk desk = Desk.opened(3, 2, 0);
        desk.exit(2);
        due("along the row", 2, desk.escape());
        desk.start(3);
        due("another start", 3, desk.escape());
        desk.start(0);
        due("the first start", 2, desk.escape());
        desk.exit(5);
        due("another exit", 3, desk.escape());
        desk.exit(2);
        due("the first exit", 2, desk.escape());
        desk.door(1, 1, RIGHT);
        due("a door", 4, desk.escape());
        desk.key(1, 0);
        due("its key", 2, desk.escape());
        due("keys are taken away, as none is needed", 1, desk.placeKeys(1));
        due("so it is as before", 4, desk.escape());
        desk.door(NONE, 1, RIGHT);
        due("no door", 2, desk.escape());
        desk.oneWay(0, RIGHT);
        due("a one-way along it", 2, desk.escape());
        desk.oneWay(2, LEFT);
        due("one against it", 4, desk.escape());
        desk.oneWay(2, LEFT);
        due("it is one no more", 2, desk.escape());
        desk.open(1, RIGHT, false);
        due("closed", 4, desk.escape());
        desk.open(1, RIGHT, true);
        due("as at first", 2, desk.escape());
        desk.door(1, 4, UP);
        desk.oneWay(2, LEFT);
        due("two changes at once", 4, desk.escape());
        desk.make(1, 0);
        due("a new maze", NONE, desk.escape());
    }

    @Edge(of = 18, says = "How many steps the shortest escape has")
    void theShortestAfterBraidAndPlaceKeys() {
        Desk braided = Desk.opened(2, 2, 0);
        braided.open(0, RIGHT, false);
        braided.exit(1);
        due("around", 3, braided.escape());
        due("braid", 1, braided.braid(1));
        due("straight", 1, braided.escape());
        Desk placed = Desk.made(3, 1, 0, 0);
        placed.exit(2);
        placed.door(0, 0, RIGHT);
        due("a door", NONE, placed.escape());
        due("its key is put", 1, placed.placeKeys(1));
        due("with it", 2, placed.escape());
    }

    @Edge(of = 18, says = "How many steps the shortest escape has")
    void aroundACutCell() {
        Desk desk = new Desk(3, 3, 0).cutAll(4);
        desk.make(1, 3);
        desk.openAll(true);
        desk.exit(5);
        due("around it", 4, desk.escape());
        due("above it, as up comes first", "^>>v", desk.escapeSteps());
    }

    @Edge(of = 18, says = "NONE if there is none")
    void noEscape() {
        Desk closed = Desk.made(3, 1, 0, 0);
        closed.exit(2);
        due("an escape", 2, closed.escape());
        closed.open(1, RIGHT, false);
        due("a wall", NONE, closed.escape());
        closed.open(1, RIGHT, true);
        closed.oneWay(2, LEFT);
        due("a one-way against it", NONE, closed.escape());
        closed.oneWay(2, LEFT);
        closed.door(0, 1, RIGHT);
        due("a door, its key nowhere", NONE, closed.escape());
        closed.key(0, 2);
        due("its key behind it", NONE, closed.escape());
        closed.key(0, 1);
        due("its key before it", 2, closed.escape());
    }

    @Edge(of = 18, says = "NONE if there is none")
    void doorsThatHideEachOthersKeys() {
        Desk desk = Desk.made(5, 1, 0, 2);
        desk.exit(4);
        desk.door(0, 2, RIGHT);
        desk.key(0, 0);
        desk.door(1, 2, LEFT);
        desk.key(1, 3);
        due("each key behind the other's door", NONE, desk.escape());
        desk.key(1, 2);
        due("one at the start", 6, desk.escape());
    }

    @Edge(of = 18, says = "NONE if there is none, or no exit")
    void escapeWithoutAnExit() {
        Desk desk = Desk.made(3, 1, 0, 0);
        due("no exit yet", NONE, desk.escape());
        desk.exit(2);
        due("an exit", 2, desk.escape());
        desk.exit(NONE);
        due("no exit any more", NONE, desk.escape());
    }

    @Edge(of = 18, says = "or no maze")
    void escapeWithoutAMaze() {
        for (NoMaze none : desksWithoutMaze()) {
            due(none.name(), NONE, none.desk().escape());
        }
        Desk desk = Desk.busy();
        due("an escape", 4, desk.escape());
        desk.cut(0, true);
        due("and none after a cut", NONE, desk.escape());
    }

    @Edge(of = 19, says = "The direction of its step i, from 0 on")
    void firstAndLastStep() {
        Desk desk = Desk.made(1, 4, 0, 3);
        desk.exit(0);
        due("all", "^^^", desk.escapeSteps());
        due("step 0", UP, desk.step(0));
        due("step 2", UP, desk.step(2));
        due("step 3", NONE, desk.step(3));
        due("step -1", NONE, desk.step(-1));
    }

    @Edge(of = 19, says = "of several shortest ones the first by directions, step by step.")
    void theFirstOfSeveral() {
        Desk desk = Desk.opened(3, 3, 0);
        desk.exit(8);
        due("right before down", ">>vv", desk.escapeSteps());
        desk.start(8);
        desk.exit(0);
        due("up before left", "^^<<", desk.escapeSteps());
        desk.start(2);
        desk.exit(6);
        due("down before left", "vv<<", desk.escapeSteps());
        desk.start(6);
        desk.exit(2);
        due("up before right", "^^>>", desk.escapeSteps());
        desk.open(3, UP, false);
        due("up when it can be", "^>^>", desk.escapeSteps());
    }

    @Edge(of = 19, says = "of several shortest ones the first by directions, step by step.")
    void theFirstOfSeveralOverTheEnds() {
        Desk ring = Desk.opened(4, 1, 1);
        ring.exit(2);
        due("right round before left round", ">>", ring.escapeSteps());
        Desk column = Desk.opened(1, 4, 2);
        column.exit(2);
        due("up round before down round", "^^", column.escapeSteps());
        Desk torus = Desk.opened(4, 4, 3);
        torus.exit(10);
        due("up, up, right, right", "^^>>", torus.escapeSteps());
    }

    @Edge(of = 19, says = "of several shortest ones the first by directions, step by step.")
    void theFirstOfTwoPassagesToTheSameNeighbour() {
        Desk row = Desk.opened(2, 1, 1);
        row.exit(1);
        due("right before left", ">", row.escapeSteps());
        row.oneWay(1, LEFT);
        due("left where right can't be", "<", row.escapeSteps());
        Desk column = Desk.opened(1, 2, 2);
        column.exit(1);
        due("up before down", "^", column.escapeSteps());
        column.door(0, 0, UP);
        due("down where up can't be", "v", column.escapeSteps());
    }

    @Edge(of = 19, says = "of several shortest ones the first by directions, step by step.")
    void theFirstOfSeveralByKeys() {
        Desk desk = Desk.opened(3, 3, 0);
        desk.start(4);
        desk.exit(8);
        desk.door(0, 8, UP);
        desk.door(1, 8, LEFT);
        desk.key(0, 3);
        desk.key(1, 1);
        due("either key is four steps; up comes first", "^vv>", desk.escapeSteps());
        desk.open(4, UP, false);
        due("the other key", "<>>v", desk.escapeSteps());
    }

    @Edge(of = 19, says = "NONE if there is none such.")
    void noSuchStep() {
        Desk desk = Desk.busy();
        due("the steps", "<>v<", desk.escapeSteps());
        due("step -1", NONE, desk.step(-1));
        due("step 4", NONE, desk.step(4));
        for (int i : FAR_OFF) {
            due("step " + i, NONE, desk.step(i));
        }
        desk.exit(4);
        due("no step, if the exit is the start", NONE, desk.step(0));
        desk.exit(3);
        due("one step", LEFT, desk.step(0));
        due("and no other", NONE, desk.step(1));
    }

    @Edge(of = 19, says = "NONE if there is none such.")
    void noStepWithoutAnEscape() {
        Desk desk = Desk.made(3, 1, 0, 0);
        due("no exit yet", NONE, desk.step(0));
        desk.exit(2);
        due("a step", RIGHT, desk.step(0));
        desk.open(1, RIGHT, false);
        due("no escape", NONE, desk.step(0));
        due("nor step -1", NONE, desk.step(-1));
        for (int i : FAR_OFF) {
            due("nor step " + i, NONE, desk.step(i));
        }
        desk.open(1, RIGHT, true);
        due("a step again", RIGHT, desk.step(1));
        desk.exit(NONE);
        due("no exit any more", NONE, desk.step(0));
        due("nor step -1", NONE, desk.step(-1));
        due("nor step -2", NONE, desk.step(-2));
    }

    @Edge(of = 19, says = "NONE if there is none such.")
    void stepWithoutAMaze() {
        for (NoMaze none : desksWithoutMaze()) {
            due(none.name(), NONE, none.desk().step(0));
        }
        Desk desk = Desk.busy();
        due("a step", LEFT, desk.step(0));
        desk.cut(0, true);
        due("and none after a cut", NONE, desk.step(0));
    }

    @Edge(of = 20, says = "The player walks a step: true")
    void aStepInEachDirection() {
        int[] beside = {1, 5, 7, 3};
        for (int d = 0; d < 4; d++) {
            Desk desk = Desk.opened(3, 3, 0);
            desk.start(4);
            due("a step", true, desk.walk(d));
            due("the player", beside[d] + "/0/1", desk.playerTold());
        }
    }

    @Edge(of = 20, says = "The player walks a step: true")
    void aStepOverEachEnd() {
        Desk desk = Desk.opened(3, 3, 3);
        int[][] steps = {{UP, 6}, {LEFT, 8}, {DOWN, 2}, {RIGHT, 0}};
        for (int i = 0; i < 4; i++) {
            due("over an end", true, desk.walk(steps[i][0]));
            due("the player", steps[i][1] + "/0/" + (i + 1), desk.playerTold());
        }
    }

    @Edge(of = 20, says = "The player walks a step: true")
    void stepsToTheSameNeighbourOnBothSides() {
        Desk desk = Desk.opened(2, 1, 1);
        due("round and round", true, desk.walk(RIGHT) && desk.walk(RIGHT) && desk.walk(LEFT) && desk.walk(LEFT));
        due("the player", "0/0/4", desk.playerTold());
        desk.open(0, RIGHT, false);
        due("closed", false, desk.walk(RIGHT));
        due("the other", true, desk.walk(LEFT));
        due("closed from there", false, desk.walk(LEFT));
    }

    @Edge(of = 20, says = "false, and nothing happens, if it can't be")
    void noStepBeyondAnEnd() {
        int[][] ends = {{1, UP}, {5, RIGHT}, {7, DOWN}, {3, LEFT}};
        Desk desk = Desk.opened(3, 3, 0);
        for (int[] end : ends) {
            desk.start(end[0]);
            due("beyond the end", false, desk.walk(end[1]));
            due("nothing happens", end[0] + "/0/0", desk.playerTold());
        }
        Desk one = Desk.made(1, 1, 3, 0);
        for (int d = 0; d < 4; d++) {
            due("to the cell itself", false, one.walk(d));
        }
        due("nothing happens", "0/0/0", one.playerTold());
    }

    @Edge(of = 20, says = "false, and nothing happens, if it can't be")
    void noStepIntoACutCell() {
        Desk desk = Desk.busy();
        desk.start(7);
        due("to the right", false, desk.walk(RIGHT));
        due("nothing happens", "7/0/0", desk.playerTold());
        desk.start(5);
        due("down", false, desk.walk(DOWN));
        due("nothing happens", "5/0/0", desk.playerTold());
    }

    @Edge(of = 20, says = "false, and nothing happens, if it can't be")
    void noStepThroughAClosedPassage() {
        Desk desk = Desk.closed(3, 3, 0);
        desk.start(4);
        String before = desk.all();
        for (int d = 0; d < 4; d++) {
            due("closed", false, desk.walk(d));
        }
        due("nothing happens", before, desk.all());
    }

    @Edge(of = 20, says = "false, and nothing happens, if it can't be")
    void noStepThroughADoorWithoutItsKey() {
        Desk desk = Desk.busy();
        desk.start(7);
        String before = desk.all();
        due("door of key 1", false, desk.walk(LEFT));
        due("nothing happens", before, desk.all());
        due("it is got", true, desk.walk(UP) && desk.walk(LEFT));
        due("door of key 0", false, desk.walk(DOWN));
        due("nothing happens", "3/2/2", desk.playerTold());
        due("back to the first", true, desk.walk(RIGHT) && desk.walk(DOWN) && desk.walk(LEFT));
        due("the player", "6/2/5", desk.playerTold());
        due("door of key 0, from behind", false, desk.walk(UP));
    }

    @Edge(of = 20, says = "false, and nothing happens, if it can't be")
    void noStepAgainstAOneWay() {
        Desk desk = Desk.busy();
        desk.start(2);
        String before = desk.all();
        due("against it", false, desk.walk(LEFT));
        due("nothing happens", before, desk.all());
        desk.start(1);
        due("along it", true, desk.walk(RIGHT));
    }

    @Edge(of = 20, says = "false, and nothing happens, if it can't be")
    void noStepInNoDirection() {
        Desk desk = Desk.opened(3, 3, 3);
        desk.start(4);
        for (int d : NO_DIRECTIONS) {
            due("direction " + d, false, desk.walk(d));
        }
        due("nothing happens", "4/0/0", desk.playerTold());
    }

    @Edge(of = 20, says = "false, and nothing happens, if it can't be, or there is no maze.")
    void walkWithoutAMaze() {
        for (NoMaze none : desksWithoutMaze()) {
            for (int d = 0; d < 4; d++) {
                due(none.name(), false, none.desk().walk(d));
            }
        }
    }

    @Edge(of = 20, says = "The player walks a step: true")
    void keysAreHadOnArrival() {
        Desk desk = Desk.made(4, 1, 0, 0);
        desk.key(0, 1);
        desk.door(0, 1, RIGHT);
        desk.key(3, 1);
        desk.key(2, 2);
        due("there", true, desk.walk(RIGHT));
        due("both keys of the cell", "1/9/1", desk.playerTold());
        due("through the door", true, desk.walk(RIGHT));
        due("and the next", "2/13/2", desk.playerTold());
    }

    @Edge(of = 21, says = "The player is at the start anew: true")
    void againFromElsewhere() {
        Desk desk = Desk.busy();
        desk.walk(RIGHT);
        due("before", "5/2/3", desk.playerTold());
        due("again", true, desk.again());
        due("anew", "4/0/0", desk.playerTold());
        due("the maze is as it was", Desk.BUSY_PICTURE, desk.picture());
    }

    @Edge(of = 21, says = "The player is at the start anew: true")
    void againAtTheStart() {
        Desk desk = Desk.made(2, 1, 0, 1);
        due("at once", true, desk.again());
        due("and again", true, desk.again());
        due("the player", "1/0/0", desk.playerTold());
        desk.walk(LEFT);
        desk.walk(RIGHT);
        due("walked back", "1/0/2", desk.playerTold());
        due("again", true, desk.again());
        due("the player", "1/0/0", desk.playerTold());
    }

    @Edge(of = 21, says = "false without a maze")
    void againWithoutAMaze() {
        for (NoMaze none : desksWithoutMaze()) {
            due(none.name(), false, none.desk().again());
            due(none.name() + ": no player", "-1/-1/-1", none.desk().playerTold());
        }
    }

    @Edge(of = 21, says = "(Keys that are put later under it are not had before it comes again.)")
    void keysPutUnderThePlayer() {
        Desk desk = Desk.made(3, 1, 0, 0);
        desk.key(1, 0);
        due("not had at the start", 0, desk.player(1));
        due("away", true, desk.walk(RIGHT));
        due("not had by going away", 0, desk.player(1));
        due("and back", true, desk.walk(LEFT));
        due("had then", 2, desk.player(1));
        due("elsewhere", true, desk.walk(RIGHT));
        desk.key(2, 1);
        due("not had there", 2, desk.player(1));
        due("a refused step is no coming", true, !desk.walk(UP) && desk.player(1) == 2);
        due("away and back", true, desk.walk(RIGHT) && desk.walk(LEFT));
        due("had then", 6, desk.player(1));
    }

    @Edge(of = 21, says = "(Keys that are put later under it are not had before it comes again.)")
    void keysPutWhereThePlayerWas() {
        Desk desk = Desk.made(3, 1, 0, 0);
        due("two steps", true, desk.walk(RIGHT) && desk.walk(RIGHT));
        desk.key(0, 0);
        desk.key(3, 1);
        due("not had", 0, desk.player(1));
        due("one back", true, desk.walk(LEFT));
        due("one had", 8, desk.player(1));
        due("again", true, desk.again());
        due("the start's key alone", 1, desk.player(1));
    }

    @Edge(of = 22, says = "what 0: the cell, 1: the keys (1 for key 0, 2, 4, 8 for others, together), 2: how many steps")
    void cellKeysAndSteps() {
        Desk desk = Desk.made(5, 1, 0, 4);
        due("at first", "4/0/0", desk.playerTold());
        for (int k = 0; k < 4; k++) {
            desk.key(k, 3 - k);
        }
        String[] told = {"3/1/1", "2/3/2", "1/7/3", "0/15/4"};
        for (int i = 0; i < 4; i++) {
            due("a step", true, desk.walk(LEFT));
            due("the player", told[i], desk.playerTold());
        }
        due("one back", true, desk.walk(RIGHT));
        due("steps add up, keys stay", "1/15/5", desk.playerTold());
    }

    @Edge(of = 22, says = "what 0: the cell, 1: the keys (1 for key 0, 2, 4, 8 for others, together), 2: how many steps")
    void eachKeyByItself() {
        for (int k = 0; k < 4; k++) {
            Desk desk = Desk.made(2, 1, 0, 0);
            desk.key(k, 0);
            desk.again();
            due("key " + k, 1 << k, desk.player(1));
        }
    }

    @Edge(of = 22, says = "NONE without a maze")
    void playerWithoutAMaze() {
        for (NoMaze none : desksWithoutMaze()) {
            for (int what = -1; what < 4; what++) {
                due(none.name() + ", what " + what, NONE, none.desk().player(what));
            }
        }
    }

    @Edge(of = 22, says = "NONE without a maze, or for another what.")
    void playerOfAnotherWhat() {
        Desk desk = Desk.busy();
        due("what -1", NONE, desk.player(-1));
        due("what 3", NONE, desk.player(3));
        due("what 4", NONE, desk.player(4));
        for (int what : FAR_OFF) {
            due("what " + what, NONE, desk.player(what));
        }
    }
}
