/** Edges of promise 17: placeKeys. */
public final class EdgesOfPlacedKeysTest extends Edges {
    public static void main(String[] args) {
        new EdgesOfPlacedKeysTest().run();
    }

    /** Where a key lies. Moves start and player, so it is asked last. */
    private static int cellOf(Desk desk, int k) {
        int found = NONE;
        for (int cell = 0; cell < desk.cells(); cell++) {
            if (desk.start(cell) && (desk.player(1) >> k & 1) == 1) {
                found = cell;
            }
        }
        return found;
    }

    /** The number that the x after the first so many chooses. */
    private static int chosen(int seed, int after, int howMany) {
        long x = seed & 0xFFFFFFFFL;
        for (int i = 0; i <= after; i++) {
            x = nextX(x);
        }
        return (int) (x / 65536 % howMany);
    }

    @Edge(of = 17, says = "All keys lie nowhere")
    void keysThatLayBeforeAreTakenAway() {
        Desk desk = Desk.made(5, 1, 0, 1);
        desk.exit(4);
        for (int k = 0; k < 4; k++) {
            desk.key(k, k + 1);
        }
        due("no key is needed", 1, desk.placeKeys(3));
        for (int k = 0; k < 4; k++) {
            due("key " + k + " lies nowhere", NONE, cellOf(desk, k));
        }
    }

    @Edge(of = 17, says = "All keys lie nowhere")
    void keysThatLayBeforeAreOfNoUse() {
        for (int seed : SEEDS) {
            Desk desk = Desk.made(6, 1, 0, 2);
            desk.exit(5);
            desk.door(1, 3, RIGHT);
            desk.key(1, 2);
            desk.key(0, 4);
            due("placed", 1, desk.placeKeys(seed));
            due("key 1 by seed " + seed, chosen(seed, 0, 4), cellOf(desk, 1));
            due("key 0 lies nowhere", NONE, cellOf(desk, 0));
        }
    }

    @Edge(of = 17, says = "All keys lie nowhere")
    void keysAreTakenAwayWhereNoneHelps() {
        Desk desk = Desk.made(4, 1, 0, 0);
        desk.exit(3);
        desk.open(1, RIGHT, false);
        desk.key(0, 1);
        desk.key(3, 3);
        due("a wall", 0, desk.placeKeys(3));
        due("drawn", "+-+-+-+-+\n|S  |  E|\n+-+-+-+-+\n", desk.picture());
        due("nor under the exit", NONE, cellOf(desk, 3));
    }

    @Edge(of = 17, says = "REACH are the cells to which one can walk from the start with all keys that were put so far")
    void reachIsFromTheStartNotFromThePlayer() {
        for (int seed : SEEDS) {
            Desk desk = Desk.made(5, 1, 0, 0);
            desk.exit(4);
            due("the player walks on", true, desk.walk(RIGHT) && desk.walk(RIGHT) && desk.walk(RIGHT));
            desk.door(2, 1, RIGHT);
            due("placed", 1, desk.placeKeys(seed));
            due("key 2 before the door, seed " + seed, chosen(seed, 0, 2), cellOf(desk, 2));
        }
    }

    @Edge(of = 17, says = "REACH are the cells to which one can walk from the start with all keys that were put so far")
    void thePlayersKeysDoNotCount() {
        Desk desk = Desk.made(3, 1, 0, 0);
        desk.exit(2);
        desk.key(1, 0);
        desk.again();
        desk.door(1, 0, RIGHT);
        due("the player has key 1", 2, desk.player(1));
        due("placed", 1, desk.placeKeys(3));
        due("key 1 was put all the same", 0, cellOf(desk, 1));
    }

    @Edge(of = 17, says = "REACH are the cells to which one can walk from the start with all keys that were put so far")
    void reachGrowsWithEachKey() {
        for (int seed : SEEDS) {
            Desk desk = Desk.made(9, 1, 0, 0);
            desk.exit(8);
            int[] keys = {3, 1, 0, 2};
            for (int i = 0; i < 4; i++) {
                desk.door(keys[i], 2 * i, RIGHT);
            }
            due("placed", 1, desk.placeKeys(seed));
            for (int i = 0; i < 4; i++) {
                due("key " + keys[i] + ", seed " + seed, chosen(seed, i, 2 * i + 1), cellOf(desk, keys[i]));
            }
        }
    }

    @Edge(of = 17, says = "REACH are the cells to which one can walk from the start with all keys that were put so far")
    void aKeyCountsWhereOneCanNotComeBackFrom() {
        int there = 0;
        for (int seed = 0; seed < 20; seed++) {
            Desk desk = Desk.made(4, 1, 0, 1);
            desk.exit(3);
            desk.oneWay(1, LEFT);
            desk.door(0, 1, RIGHT);
            due("placed", 1, desk.placeKeys(seed));
            int cell = chosen(seed, 0, 2);
            due("an escape only from the start's side", cell == 0 ? NONE : 2, desk.escape());
            due("key 0, seed " + seed, cell, cellOf(desk, 0));
            there += cell == 0 ? 1 : 0;
        }
        due("both cells were chosen", true, there > 0 && there < 20);
    }

    @Edge(of = 17, says = "if the exit is one of them: 1.")
    void noKeyIsNeeded() {
        Desk desk = Desk.made(4, 1, 0, 1);
        desk.exit(2);
        desk.door(0, 0, RIGHT);
        desk.door(1, 2, RIGHT);
        due("placed", 1, desk.placeKeys(3));
        due("key 0 lies nowhere", NONE, cellOf(desk, 0));
        due("key 1 lies nowhere", NONE, cellOf(desk, 1));
    }

    @Edge(of = 17, says = "if the exit is one of them: 1.")
    void theStartIsTheExit() {
        Desk desk = Desk.closed(3, 1, 0);
        desk.exit(0);
        due("all closed", 1, desk.placeKeys(3));
        Desk one = Desk.made(1, 1, 3, 0);
        one.exit(0);
        due("one cell", 1, one.placeKeys(3));
        Desk door = Desk.made(2, 1, 0, 0);
        door.exit(0);
        door.door(0, 0, RIGHT);
        due("a door beside", 1, door.placeKeys(3));
        due("no key was put", NONE, cellOf(door, 0));
    }

    @Edge(of = 17, says = "of the doors whose key was not put")
    void oneKeyForSeveralDoors() {
        for (int seed : SEEDS) {
            Desk desk = Desk.made(5, 1, 0, 0);
            desk.exit(4);
            desk.door(2, 1, RIGHT);
            desk.door(2, 2, RIGHT);
            desk.door(2, 3, RIGHT);
            due("placed", 1, desk.placeKeys(seed));
            due("key 2 is put once", chosen(seed, 0, 2), cellOf(desk, 2));
            due("no other", true, cellOf(desk, 0) == NONE && cellOf(desk, 1) == NONE && cellOf(desk, 3) == NONE);
        }
    }

    @Edge(of = 17, says = "and that stand on a passage that one can walk (but for the door) from a cell of REACH")
    void aDoorThatIsOneWayAgainstReachDoesNotCount() {
        Desk desk = Desk.made(4, 1, 0, 1);
        desk.exit(3);
        desk.door(0, 0, RIGHT);
        desk.oneWay(0, RIGHT);
        desk.door(1, 1, RIGHT);
        due("placed", 1, desk.placeKeys(3));
        due("key 0 was not put", NONE, cellOf(desk, 0));
        due("key 1 was", 1, cellOf(desk, 1));
        Desk against = Desk.made(3, 1, 0, 0);
        against.exit(2);
        against.door(1, 1, RIGHT);
        against.oneWay(2, LEFT);
        due("the only door is against it", 0, against.placeKeys(3));
        due("so no key was put", NONE, cellOf(against, 1));
    }

    @Edge(of = 17, says = "and that stand on a passage that one can walk (but for the door) from a cell of REACH")
    void aDoorThatIsOneWayAlongCounts() {
        Desk desk = Desk.made(3, 1, 0, 0);
        desk.exit(2);
        desk.door(1, 0, RIGHT);
        desk.oneWay(0, RIGHT);
        due("placed", 1, desk.placeKeys(3));
        due("key 1 at the start", 0, cellOf(desk, 1));
    }

    @Edge(of = 17, says = "and that stand on a passage that one can walk (but for the door) from a cell of REACH")
    void aDoorInEachDirectionCounts() {
        int[] beside = {1, 5, 7, 3};
        for (int d = 0; d < 4; d++) {
            Desk desk = Desk.closed(3, 3, 0);
            desk.start(4);
            desk.exit(beside[d]);
            desk.open(4, d, true);
            desk.door(2, 4, d);
            due("placed, door " + d, 1, desk.placeKeys(3));
            due("key 2 at the start", 4, cellOf(desk, 2));
        }
        Desk over = Desk.opened(3, 1, 1);
        over.open(0, RIGHT, false);
        over.exit(2);
        over.door(2, 2, RIGHT);
        due("placed, over the end", 1, over.placeKeys(3));
        due("key 2 at the start", 0, cellOf(over, 2));
    }

    @Edge(of = 17, says = "and that stand on a passage that one can walk (but for the door) from a cell of REACH")
    void aDoorFartherOnDoesNotCountYet() {
        // Key 0's door is behind key 3's: the least key of both is 0, but only 3's can be walked to.
        for (int seed : SEEDS) {
            Desk desk = Desk.made(4, 1, 0, 0);
            desk.exit(3);
            desk.door(3, 0, RIGHT);
            desk.door(0, 1, RIGHT);
            due("placed", 1, desk.placeKeys(seed));
            due("key 3 first, at the start", 0, cellOf(desk, 3));
            due("then key 0, seed " + seed, chosen(seed, 1, 2), cellOf(desk, 0));
        }
    }

    @Edge(of = 17, says = "and that stand on a passage that one can walk (but for the door) from a cell of REACH")
    void aDoorBetweenTwoCellsOfReachCounts() {
        Desk desk = Desk.opened(3, 2, 0);
        desk.open(4, RIGHT, false);
        desk.exit(2);
        desk.door(0, 0, DOWN);
        desk.door(1, 1, RIGHT);
        // Cells 0, 1, 4, 3 can be walked to without a key; the door of 0 is between two of them.
        due("placed", 1, desk.placeKeys(3));
        int[] reach = {0, 1, 3, 4};
        due("key 0 was put first", reach[chosen(3, 0, 4)], cellOf(desk, 0));
        due("key 1 then", reach[chosen(3, 1, 4)], cellOf(desk, 1));
    }

    @Edge(of = 17, says = "the least key")
    void theLeastKeyIsPutFirst() {
        for (int least = 0; least < 4; least++) {
            Desk desk = Desk.opened(3, 3, 0);
            desk.start(4);
            desk.exit(0);
            // Doors all round the middle, of the keys from 3 down to the least in one order of directions.
            for (int d = 0; d < 4; d++) {
                desk.door(Math.max(least, 3 - d), 4, d);
            }
            due("placed", 1, desk.placeKeys(3));
            for (int k = 0; k < 4; k++) {
                due("key " + k + ", where " + least + " is the least", k == least ? 4 : NONE, cellOf(desk, k));
            }
        }
    }

    @Edge(of = 17, says = "0 if there is none")
    void noDoorToBeOpened() {
        Desk closed = Desk.closed(3, 1, 0);
        closed.exit(2);
        due("all closed", 0, closed.placeKeys(3));
        Desk behind = Desk.made(4, 1, 0, 0);
        behind.exit(3);
        behind.open(0, RIGHT, false);
        behind.door(1, 1, RIGHT);
        due("a door behind a wall", 0, behind.placeKeys(3));
        due("its key was not put", NONE, cellOf(behind, 1));
    }

    @Edge(of = 17, says = "0 if there is none")
    void allKeysArePutAndNoneHelps() {
        Desk desk = Desk.opened(3, 3, 0);
        desk.start(4);
        desk.exit(8);
        for (int d = 0; d < 4; d++) {
            desk.door(d, 4, d);
        }
        desk.open(5, DOWN, false);
        desk.open(7, RIGHT, false);
        due("all four, and the exit is closed", 0, desk.placeKeys(3));
        for (int k = 0; k < 4; k++) {
            due("key " + k + " was put", true, cellOf(desk, k) != NONE);
        }
    }

    @Edge(of = 17, says = "0 if there is none")
    void someKeysArePutAndThenNoneIsLeft() {
        Desk desk = Desk.made(4, 1, 0, 0);
        desk.exit(3);
        desk.door(2, 0, RIGHT);
        desk.open(2, RIGHT, false);
        due("a wall behind the door", 0, desk.placeKeys(3));
        due("key 2 was put", 0, cellOf(desk, 2));
    }

    @Edge(of = 17, says = "x, at first the seed, becomes the next one as on stacks")
    void xIsThatOfTheSeed() {
        for (int seed : SEEDS) {
            Desk desk = Desk.made(12, 1, 0, 0);
            desk.exit(11);
            desk.door(0, 10, RIGHT);
            due("placed", 1, desk.placeKeys(seed));
            due("of eleven cells, seed " + seed, chosen(seed, 0, 11), cellOf(desk, 0));
        }
        Desk twice = Desk.made(12, 1, 0, 0);
        twice.exit(11);
        twice.door(0, 10, RIGHT);
        twice.placeKeys(1);
        twice.placeKeys(2);
        due("x begins anew with each call", chosen(2, 0, 11), cellOf(twice, 0));
    }

    @Edge(of = 17, says = "the key comes to the cell of REACH, in order, with the number ((x in 32 bits without a sign) "
            + "/ 65536) modulo how many these are")
    void reachIsInTheOrderOfCells() {
        // From the last cell on, walking comes to cells in another order than that of their numbers.
        for (int seed = 0; seed < 30; seed++) {
            Desk desk = Desk.opened(3, 3, 0);
            desk.start(8);
            desk.exit(0);
            desk.door(1, 0, RIGHT);
            desk.door(1, 0, DOWN);
            due("placed", 1, desk.placeKeys(seed * 71582789));
            due("of eight cells", 1 + chosen(seed * 71582789, 0, 8), cellOf(desk, 1));
        }
    }

    @Edge(of = 17, says = "the key comes to the cell of REACH")
    void reachOfOneCell() {
        for (int seed : SEEDS) {
            Desk desk = Desk.made(2, 1, 0, 1);
            desk.exit(0);
            desk.door(3, 0, RIGHT);
            due("placed", 1, desk.placeKeys(seed));
            due("at the start", 1, cellOf(desk, 3));
        }
    }

    @Edge(of = 17, says = "the key comes to the cell of REACH")
    void reachOverTheEnds() {
        for (int seed : SEEDS) {
            Desk desk = Desk.opened(4, 1, 1);
            desk.exit(2);
            desk.door(0, 1, RIGHT);
            desk.door(0, 3, LEFT);
            int[] reach = {0, 1, 3};
            due("placed", 1, desk.placeKeys(seed));
            due("key 0, seed " + seed, reach[chosen(seed, 0, 3)], cellOf(desk, 0));
        }
    }

    @Edge(of = 17, says = "the key comes to the cell of REACH")
    void oneOfTwoPassagesToTheSameNeighbourIsOpen() {
        Desk desk = Desk.opened(2, 1, 1);
        desk.exit(1);
        desk.door(0, 0, LEFT);
        due("the other has no door", 1, desk.placeKeys(3));
        due("so no key was put", NONE, cellOf(desk, 0));
        desk.start(0);
        desk.door(1, 0, RIGHT);
        due("both have doors", 1, desk.placeKeys(3));
        due("the least key was put", 0, cellOf(desk, 0));
        due("and not the other", NONE, cellOf(desk, 1));
    }

    @Edge(of = 17, says = "the key comes to the cell of REACH")
    void aKeyThatIsPutUnderThePlayerIsNotHad() {
        Desk desk = Desk.made(2, 1, 0, 0);
        desk.exit(1);
        desk.door(0, 0, RIGHT);
        due("placed", 1, desk.placeKeys(3));
        due("the player", "0/0/0", desk.playerTold());
        due("does not pass", false, desk.walk(RIGHT));
        due("before it comes again", true, desk.again() && desk.walk(RIGHT));
    }

    @Edge(of = 17, says = "NONE, and nothing happens, without a maze")
    void placeKeysWithoutAMaze() {
        for (NoMaze none : desksWithoutMaze()) {
            due(none.name(), NONE, none.desk().placeKeys(1));
            due(none.name() + ": there is still none", NONE, none.desk().player(0));
        }
    }

    @Edge(of = 17, says = "NONE, and nothing happens, without a maze or an exit.")
    void placeKeysWithoutAnExit() {
        Desk desk = Desk.busy();
        desk.exit(NONE);
        String before = desk.all();
        due("no exit any more", NONE, desk.placeKeys(1));
        due("nothing happens", before, desk.all());
        Desk fresh = Desk.made(3, 1, 0, 0);
        fresh.key(2, 1);
        due("no exit yet", NONE, fresh.placeKeys(1));
        due("the key lies where it lay", 1, cellOf(fresh, 2));
    }
}
