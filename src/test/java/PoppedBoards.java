import java.util.stream.IntStream;

/**
 * Boards with long corridors between a crossing and the root: only such take thousands of pops. They
 * and their seeds were searched for, so that one stack is popped 5,000 times, and on the other 5,001.
 */
final class PoppedBoards {
    static final int SEED_5000 = 2104423;
    static final int ROOT_5000 = 56;
    static final int CROSSING_5000 = 121;

    static final int SEED_5001 = 2243635;
    static final int ROOT_5001 = 69;
    /** From this root the same seed draws a maze. */
    static final int NEARER_ROOT = 35;

    private static final String[] BOARD_5000 = {
        "....#.......",
        ".##...#####.",
        "...###....#.",
        "##.#...##...",
        "...#.##..###",
        ".##..#..#...",
        "..#.#..#..#.",
        "#.#.#.##.#..",
        "..#.#....#.#",
        "#.#..#####..",
        "...#.##...#.",
        "#.##....#...",
    };
    private static final String[] BOARD_5001 = {
        "#.##........",
        "...#.######.",
        "#.#..#...#..",
        "..#.#..#.#.#",
        "#.#...#..#..",
        "..####..#.#.",
        ".##....#..#.",
        "..#.###..#..",
        "#.#.....##.#",
        "..########..",
        ".#...##...#.",
        "...#....#...",
    };

    private PoppedBoards() {
    }

    static Desk desk5000() {
        return deskOf(BOARD_5000);
    }

    static Desk desk5001() {
        return deskOf(BOARD_5001);
    }

    static PlainDesk plainDesk5000() {
        return plainDeskOf(BOARD_5000);
    }

    static PlainDesk plainDesk5001() {
        return plainDeskOf(BOARD_5001);
    }

    private static Desk deskOf(String[] board) {
        return new Desk(12, 12, 0).cutAll(cutCells(board));
    }

    private static PlainDesk plainDeskOf(String[] board) {
        PlainDesk desk = new PlainDesk(12, 12, 0);
        for (int cell : cutCells(board)) {
            desk.cut(cell, true);
        }
        return desk;
    }

    private static int[] cutCells(String[] board) {
        return IntStream.range(0, 144).filter(cell -> board[cell / 12].charAt(cell % 12) == '#').toArray();
    }
}
