/** Edges of promises 3 to 7: make, top, popped, circles, trees. */
public final class EdgesOfDrawnMazesTest extends Edges {
    public static void main(String[] args) {
        new EdgesOfDrawnMazesTest().run();
    }

    @Edge(of = 3, says = "A maze is drawn: 1.")
    void smallestAndLargestBoards() {
        due("one cell", 1, new Desk(1, 1, 0).make(0, 0));
        due("one cell, wrapped", 1, new Desk(1, 1, 3).make(0, 0));
        for (int wrapped = 0; wrapped < 4; wrapped++) {
            due("144 cells, from the first", 1, new Desk(12, 12, wrapped).make(5, 0));
            due("144 cells, from the last", 1, new Desk(12, 12, wrapped).make(5, 143));
        }
        Desk one = new Desk(2, 2, 3).cutAll(0, 1, 3);
        due("all cut but one", 1, one.make(5, 2));
        due("the root", 2, one.player(0));
    }

    @Edge(of = 3, says = "A maze is drawn: 1.")
    void anySeed() {
        for (int seed : SEEDS) {
            Desk desk = new Desk(4, 4, 0);
            PlainDesk plain = new PlainDesk(4, 4, 0);
            due("seed " + seed, plain.make(seed, 5), desk.make(seed, 5));
            for (int cell = 0; cell < 16; cell++) {
                due("top of " + cell + ", seed " + seed, plain.top(cell), desk.top(cell));
                due("pops of " + cell + ", seed " + seed, plain.popped(cell), desk.popped(cell));
            }
        }
    }

    @Edge(of = 3, says = "A maze is drawn: 1.")
    void aMazeInThePlaceOfAnother() {
        Desk desk = new Desk(3, 3, 0);
        desk.make(7, 4);
        String first = desk.all();
        desk.make(8, 0);
        desk.openAll(true);
        desk.make(7, 4);
        due("the same as the first time", first, desk.all());
    }

    @Edge(of = 3, says = "0 if there are cells, not cut, from which no ways lead to the root")
    void apart() {
        Desk row = new Desk(5, 1, 0).cutAll(2);
        for (int root : new int[] {0, 1, 3, 4}) {
            due("a row in two parts, root " + root, 0, row.make(5, root));
        }
        Desk corner = new Desk(3, 3, 0).cutAll(1, 3);
        due("one cell in a corner, from outside", 0, corner.make(5, 8));
        due("and from inside", 0, corner.make(5, 0));
        due("cells that touch at corners alone", 0, new Desk(2, 2, 0).cutAll(0, 3).make(5, 1));
        due("the end of a row and the next row's first", 0, new Desk(2, 2, 0).cutAll(0, 3).make(5, 2));
    }

    @Edge(of = 3, says = "0 if there are cells, not cut, from which no ways lead to the root")
    void cutCellsNeedNoWays() {
        due("cut at an end", 1, new Desk(5, 1, 0).cutAll(0).make(5, 4));
        due("all beyond the cut is cut", 1, new Desk(5, 1, 0).cutAll(2, 3, 4).make(5, 0));
        due("cut in the middle", 1, new Desk(3, 3, 0).cutAll(4).make(5, 0));
    }

    @Edge(of = 3, says = "0 if there are cells, not cut, from which no ways lead to the root")
    void waysOverTheEndsLeadToTheRoot() {
        due("a row", 0, new Desk(5, 1, 0).cutAll(2).make(5, 0));
        due("a row, wrapped up and down", 0, new Desk(5, 1, 2).cutAll(2).make(5, 0));
        due("a ring", 1, new Desk(5, 1, 1).cutAll(2).make(5, 0));
        due("a ring in two parts", 0, new Desk(5, 1, 1).cutAll(2, 4).make(5, 0));
        due("a column", 0, new Desk(1, 5, 1).cutAll(2).make(5, 0));
        due("a column that is a ring", 1, new Desk(1, 5, 2).cutAll(2).make(5, 0));
    }

    @Edge(of = 3, says = "in both cases there is no maze")
    void noMazeAfter0() {
        Desk desk = Desk.busy();
        desk.cutAll(1, 3);
        due("apart", 0, desk.make(7, 4));
        dueNoMaze("after 0", desk, 4, RIGHT);
        Desk inside = new Desk(3, 3, 0).cutAll(4, 7);
        due("two cells joined, and one not", 1, inside.make(7, 0));
        inside.cut(3, true);
        due("apart", 0, inside.make(7, 0));
        dueNoMaze("after 0", inside, 0, RIGHT);
    }

    @Edge(of = 3, says = "2 if a stack would have to be popped more than 5,000 times")
    void popped5000Times() {
        Desk desk = PoppedBoards.desk5000();
        due("5,000 times", 1, desk.make(PoppedBoards.SEED_5000, PoppedBoards.ROOT_5000));
        due("so often", 5000, desk.popped(PoppedBoards.CROSSING_5000));
        due("there is a maze", PoppedBoards.ROOT_5000, desk.player(0));
        due("all circles together may be more", true, desk.circles() > 5000);
    }

    @Edge(of = 3, says = "2 if a stack would have to be popped more than 5,000 times")
    void popped5001Times() {
        Desk desk = PoppedBoards.desk5001();
        due("5,001 times", 2, desk.make(PoppedBoards.SEED_5001, PoppedBoards.ROOT_5001));
        due("as often as one asks", 2, desk.make(PoppedBoards.SEED_5001, PoppedBoards.ROOT_5001));
        due("another seed", 1, desk.make(1, PoppedBoards.ROOT_5001));
        due("another root", 1, desk.make(PoppedBoards.SEED_5001, PoppedBoards.NEARER_ROOT));
    }

    @Edge(of = 3, says = "in both cases there is no maze")
    void noMazeAfter2() {
        Desk desk = PoppedBoards.desk5001();
        due("a maze", 1, desk.make(PoppedBoards.SEED_5001, PoppedBoards.NEARER_ROOT));
        due("with an exit", true, desk.exit(4));
        due("2", 2, desk.make(PoppedBoards.SEED_5001, PoppedBoards.ROOT_5001));
        dueNoMaze("after 2", desk, 4, RIGHT);
        due("a maze again", 1, desk.make(1, PoppedBoards.ROOT_5001));
        due("from the root", PoppedBoards.ROOT_5001, desk.player(0));
        due("without an exit", NONE, desk.escape());
    }

    @Edge(of = 3, says = "NONE, and nothing happens, if the root is no cell")
    void theRootIsNoCell() {
        Desk desk = Desk.busy();
        String before = desk.all();
        due("before the first", NONE, desk.make(5, -1));
        due("after the last", NONE, desk.make(5, 9));
        for (int root : FAR_OFF) {
            due("far off, " + root, NONE, desk.make(5, root));
        }
        due("nothing happens", before, desk.all());
        due("on the smallest board", NONE, new Desk(1, 1, 3).make(5, 1));
        due("on the largest board", NONE, new Desk(12, 12, 3).make(5, 144));
    }

    @Edge(of = 3, says = "NONE, and nothing happens, if the root is no cell, or cut.")
    void theRootIsCut() {
        Desk desk = Desk.busy();
        String before = desk.all();
        due("cut", NONE, desk.make(5, 8));
        due("nothing happens", before, desk.all());
    }

    @Edge(of = 3, says = "NONE, and nothing happens, if the root is no cell, or cut.")
    void noRootOnABoardInParts() {
        Desk desk = new Desk(5, 1, 0).cutAll(2);
        due("cut", NONE, desk.make(5, 2));
        due("no cell", NONE, desk.make(5, 5));
        due("another", 0, desk.make(5, 3));
        Desk all = new Desk(2, 1, 0).cutAll(0, 1);
        due("all cut", NONE, all.make(5, 0));
        due("all cut, no cell", NONE, all.make(5, 2));
    }

    @Edge(of = 3, says = "NONE, and nothing happens, if the root is no cell, or cut.")
    void noRootAndNoMazeBefore() {
        Desk desk = new Desk(3, 3, 0).cutAll(8);
        due("no cell", NONE, desk.make(5, 9));
        due("cut", NONE, desk.make(5, 8));
        dueNoMaze("still none", desk, 4, RIGHT);
    }

    @Edge(of = 4, says = "The direction on top of a cell's stack when the maze was drawn")
    void topStaysAsDrawn() {
        Desk desk = new Desk(3, 3, 0);
        desk.make(7, 4);
        int[] tops = {RIGHT, RIGHT, DOWN, RIGHT, NONE, LEFT, UP, RIGHT, UP};
        desk.openAll(false);
        desk.start(0);
        desk.open(0, DOWN, true);
        desk.braid(9);
        for (int cell = 0; cell < 9; cell++) {
            due("top of " + cell, tops[cell], desk.top(cell));
        }
    }

    @Edge(of = 4, says = "NONE of the root")
    void topOfTheRoot() {
        for (int root = 0; root < 9; root++) {
            Desk desk = Desk.made(3, 3, 0, root);
            for (int cell = 0; cell < 9; cell++) {
                due("top, from root " + root, cell == root, desk.top(cell) == NONE);
            }
        }
        Desk moved = Desk.made(3, 3, 0, 4);
        moved.start(0);
        due("another start is no root", true, moved.top(0) != NONE);
        due("the root stays one", NONE, moved.top(4));
        due("one cell", NONE, Desk.made(1, 1, 3, 0).top(0));
    }

    @Edge(of = 4, says = "NONE of the root, cut cells")
    void topOfACutCell() {
        Desk desk = Desk.made(3, 3, 0, 4);
        due("not cut", true, desk.top(8) != NONE);
        desk.cut(8, true);
        desk.make(1, 4);
        due("cut", NONE, desk.top(8));
        due("beside it", true, desk.top(7) != NONE && desk.top(5) != NONE);
    }

    @Edge(of = 4, says = "NONE of the root, cut cells, others")
    void topOfOthers() {
        Desk desk = Desk.made(3, 3, 3, 4);
        due("-1", NONE, desk.top(-1));
        due("9", NONE, desk.top(9));
        for (int cell : FAR_OFF) {
            due("far off, " + cell, NONE, desk.top(cell));
        }
    }

    @Edge(of = 4, says = "or without a maze")
    void topWithoutAMaze() {
        for (NoMaze none : desksWithoutMaze()) {
            due(none.name(), NONE, none.desk().top(none.cell()));
        }
    }

    @Edge(of = 5, says = "NONE of cut cells")
    void poppedOfACutCell() {
        Desk desk = Desk.made(3, 3, 0, 4);
        due("not cut", true, desk.popped(8) >= 0);
        desk.cut(8, true);
        desk.make(1, 4);
        due("cut", NONE, desk.popped(8));
        due("beside it", true, desk.popped(7) >= 0 && desk.popped(5) >= 0);
    }

    @Edge(of = 5, says = "NONE of cut cells, others")
    void poppedOfOthers() {
        Desk desk = Desk.made(3, 3, 3, 4);
        due("-1", NONE, desk.popped(-1));
        due("9", NONE, desk.popped(9));
        for (int cell : FAR_OFF) {
            due("far off, " + cell, NONE, desk.popped(cell));
        }
    }

    @Edge(of = 5, says = "or without a maze")
    void poppedWithoutAMaze() {
        for (NoMaze none : desksWithoutMaze()) {
            due(none.name(), NONE, none.desk().popped(none.cell()));
        }
    }

    @Edge(of = 5, says = "the root's 0 times")
    void poppedOfTheRoot() {
        for (int root = 0; root < 9; root++) {
            for (int seed : SEEDS) {
                Desk desk = new Desk(3, 3, 3);
                desk.make(seed, root);
                due("root " + root, 0, desk.popped(root));
            }
        }
        due("one cell", 0, Desk.made(1, 1, 3, 0).popped(0));
    }

    @Edge(of = 5, says = "How often its stack was popped")
    void poppedIsCountedAnew() {
        Desk desk = new Desk(3, 1, 0);
        Desk fresh = new Desk(3, 1, 0);
        for (int seed = 0; seed < 30; seed++) {
            desk.make(seed, 0);
        }
        // A middle cell that points right, thrice at least, is popped as often.
        int seed = seedOfThreePops();
        desk.make(seed, 0);
        fresh.make(seed, 0);
        due("after others", fresh.popped(1), desk.popped(1));
        due("is not 0", true, desk.popped(1) >= 3);
        due("and circles too", fresh.circles(), desk.circles());
    }

    private static int seedOfThreePops() {
        for (int seed = 100;; seed++) {
            long x = firstX(seed, 1);
            int pops = 0;
            for (int i = 0; i < 3; i++) {
                x = nextX(x);
                pops += x / 65536 % 2 == 0 ? 1 : 0;
            }
            if (pops == 3) {
                return seed;
            }
        }
    }

    @Edge(of = 6, says = "NONE without a maze")
    void circlesWithoutAMaze() {
        for (NoMaze none : desksWithoutMaze()) {
            due(none.name(), NONE, none.desk().circles());
        }
    }

    @Edge(of = 6, says = "How many circles were popped")
    void noCircles() {
        for (int seed : SEEDS) {
            Desk one = new Desk(1, 1, 3);
            one.make(seed, 0);
            due("one cell", 0, one.circles());
            Desk two = new Desk(2, 1, 1);
            two.make(seed, 1);
            due("two cells, two passages", 0, two.circles());
            Desk star = new Desk(3, 3, 0).cutAll(0, 2, 6, 8);
            star.make(seed, 4);
            due("a star, from its middle", 0, star.circles());
        }
    }

    @Edge(of = 7, says = "How many trees have all cells that are not cut, with passages of the board")
    void treesOfSmallBoards() {
        due("one cell", 1, new Desk(1, 1, 0).trees());
        due("one cell, wrapped", 1, new Desk(1, 1, 3).trees());
        due("a row of twelve", 1, new Desk(12, 1, 0).trees());
        due("a row of twelve, wrapped up and down", 1, new Desk(12, 1, 2).trees());
        due("a ring of twelve", 12, new Desk(12, 1, 1).trees());
        due("a column that is a ring", 12, new Desk(1, 12, 2).trees());
        due("two by two", 4, new Desk(2, 2, 0).trees());
        due("one of four cut", 1, new Desk(2, 2, 0).cutAll(0).trees());
        due("three of four cut", 1, new Desk(2, 2, 3).cutAll(0, 1, 2).trees());
    }

    @Edge(of = 7, says = "How many trees have all cells that are not cut, with passages of the board")
    void treesWithTwoPassagesToTheSameNeighbour() {
        due("two cells", 1, new Desk(2, 1, 0).trees());
        due("two cells, wrapped", 2, new Desk(2, 1, 1).trees());
        due("two cells, wrapped so that it does not matter", 1, new Desk(2, 1, 2).trees());
        due("two cells above each other, wrapped", 2, new Desk(1, 2, 2).trees());
        due("two by two, wrapped", 32, new Desk(2, 2, 3).trees());
        due("two by eight, wrapped", 5326848, new Desk(2, 8, 3).trees());
        due("as counted one by one", TreesOneByOne.count(2, 4, 3, 0), new Desk(2, 4, 3).trees());
    }

    @Edge(of = 7, says = "How many trees have all cells that are not cut, with passages of the board")
    void treesWhateverTheMazeIs() {
        Desk desk = new Desk(3, 3, 0);
        due("no maze", 192, desk.trees());
        desk.make(7, 4);
        due("a maze", 192, desk.trees());
        desk.openAll(false);
        due("all closed", 192, desk.trees());
        desk.openAll(true);
        desk.oneWay(4, UP);
        desk.door(1, 4, DOWN);
        due("all open", 192, desk.trees());
        due("and the maze is still there", 4, desk.player(0));
        desk.cut(8, true);
        due("after a cut", 56, desk.trees());
        desk.cut(8, false);
        due("as it was", 192, desk.trees());
    }

    @Edge(of = 7, says = "0 if there is none")
    void noTrees() {
        due("two cells apart", 0, new Desk(3, 1, 0).cutAll(1).trees());
        due("touching at a corner", 0, new Desk(2, 2, 0).cutAll(1, 2).trees());
        due("the first cell alone", 0, new Desk(3, 3, 0).cutAll(1, 3).trees());
        due("the last cell alone", 0, new Desk(3, 3, 0).cutAll(5, 7).trees());
        due("the middle cell alone", 0, new Desk(3, 3, 0).cutAll(1, 3, 5, 7).trees());
        due("two rings", 0, new Desk(4, 3, 1).cutAll(4, 5, 6, 7).trees());
        due("sixteen cells, in two parts", 0, new Desk(6, 3, 0).cutAll(1, 6).trees());
        due("parts of equal size", 0, new Desk(5, 3, 0).cutAll(2, 7, 12).trees());
    }

    @Edge(of = 7, says = "NONE if there are more than 16 such cells")
    void sixteenCells() {
        due("four by four", 100352, new Desk(4, 4, 0).trees());
        due("four by four, wrapped", 42467328, new Desk(4, 4, 3).trees());
        due("two by eight", 10864, new Desk(2, 8, 0).trees());
        Desk cut = new Desk(6, 3, 0).cutAll(0, 1);
        due("eighteen of which two are cut", true, cut.trees() > 0);
        Desk large = new Desk(12, 12, 3);
        PlainDesk plain = new PlainDesk(12, 12, 3);
        for (int cell = 16; cell < 144; cell++) {
            large.cut(cell, true);
            plain.cut(cell, true);
        }
        due("a ring of twelve beside four", plain.trees(), large.trees());
    }

    @Edge(of = 7, says = "NONE if there are more than 16 such cells")
    void moreThanSixteenCells() {
        due("seventeen", NONE, new Desk(6, 3, 0).cutAll(17).trees());
        due("eighteen", NONE, new Desk(6, 3, 0).trees());
        due("144", NONE, new Desk(12, 12, 3).trees());
        due("seventeen, in two parts", NONE, new Desk(9, 3, 0).cutAll(9, 10, 11, 12, 13, 14, 15, 16, 17, 26).trees());
        Desk back = new Desk(6, 3, 0).cutAll(0, 1);
        due("sixteen", true, back.trees() > 0);
        back.cut(0, false);
        due("seventeen again", NONE, back.trees());
    }

    @Edge(of = 7, says = "NONE if there are more than 16 such cells, or none.")
    void noCells() {
        Desk one = new Desk(1, 1, 0).cutAll(0);
        due("of one", NONE, one.trees());
        one.cut(0, false);
        due("and one again", 1, one.trees());
        due("of four", NONE, new Desk(2, 2, 3).cutAll(0, 1, 2, 3).trees());
        Desk many = new Desk(5, 4, 0);
        for (int cell = 0; cell < 20; cell++) {
            due("with more than sixteen left", cell < 4, many.trees() == NONE);
            many.cut(cell, true);
        }
        due("of twenty", NONE, many.trees());
    }
}
