/**
 * The edge of 5,000 pops. Only a long corridor between a crossing and the root takes so many; these
 * two boards and seeds were searched for, so that the crossing is popped 5,000 times and 5,001 times.
 */
public final class PopsTest {
    private static final String[] BOARD_OF_5000 = {
        "....#.......",
        ".##...#####.",
        "...###....#.",
        "##.#...##...",
        "...#.##..###",
        ".##..#..#...",
        "..#.#..#..#.",
        "#.#.#.##.#..",
        "..#.#....#.#",
        "#.#..#####..",
        "...#.##...#.",
        "#.##....#...",
    };
    private static final int SEED_OF_5000 = 2104423;
    private static final int ROOT_OF_5000 = 56;
    private static final int CROSSING_OF_5000 = 121;

    private static final String[] BOARD_OF_5001 = {
        "#.##........",
        "...#.######.",
        "#.#..#...#..",
        "..#.#..#.#.#",
        "#.#...#..#..",
        "..####..#.#.",
        ".##....#..#.",
        "..#.###..#..",
        "#.#.....##.#",
        "..########..",
        ".#...##...#.",
        "...#....#...",
    };
    private static final int SEED_OF_5001 = 2243635;
    private static final int ROOT_OF_5001 = 69;
    private static final int NEARER_ROOT = 35;

    public static void main(String[] args) {
        Checks checks = new Checks();
        popped5000(checks);
        popped5001(checks);
        checks.end();
    }

    private static MazeDesk deskOf(String[] board) {
        MazeDesk desk = new MazeDesk(12, 12, 0);
        for (int cell = 0; cell < 144; cell++) {
            if (isCut(board, cell)) {
                desk.cut(cell, true);
            }
        }
        return desk;
    }

    private static PlainDesk plainDeskOf(String[] board) {
        PlainDesk desk = new PlainDesk(12, 12, 0);
        for (int cell = 0; cell < 144; cell++) {
            if (isCut(board, cell)) {
                desk.cut(cell, true);
            }
        }
        return desk;
    }

    private static boolean isCut(String[] board, int cell) {
        return board[cell / 12].charAt(cell % 12) == '#';
    }

    private static void popped5000(Checks checks) {
        MazeDesk desk = deskOf(BOARD_OF_5000);
        checks.due("5,000 pops", 1, desk.make(SEED_OF_5000, ROOT_OF_5000));
        checks.due("popped at the crossing", 5000, desk.popped(CROSSING_OF_5000));
        PlainDesk plain = plainDeskOf(BOARD_OF_5000);
        checks.due("5,000 pops, plainly", 1, plain.make(SEED_OF_5000, ROOT_OF_5000));
        checks.due("circles", plain.circles(), desk.circles());
        for (int cell = 0; cell < 144; cell++) {
            checks.due("popped(" + cell + ")", plain.popped(cell), desk.popped(cell));
            checks.due("top(" + cell + ")", plain.top(cell), desk.top(cell));
        }
    }

    private static void popped5001(Checks checks) {
        MazeDesk desk = deskOf(BOARD_OF_5001);
        checks.due("from a nearer root", 1, desk.make(SEED_OF_5001, NEARER_ROOT));
        checks.due("a maze", NEARER_ROOT, desk.player(0));
        checks.due("no root, so nothing happens", -1, desk.make(SEED_OF_5001, 0));
        checks.due("still a maze", NEARER_ROOT, desk.player(0));
        checks.due("5,001 pops", 2, desk.make(SEED_OF_5001, ROOT_OF_5001));
        checks.due("no maze: player", -1, desk.player(0));
        checks.due("no maze: top", -1, desk.top(ROOT_OF_5001 + 12));
        checks.due("no maze: popped", -1, desk.popped(ROOT_OF_5001));
        checks.due("no maze: circles", -1, desk.circles());
        checks.due("no maze: drawing", -1, desk.drawing(0));
        checks.due("once more", 2, desk.make(SEED_OF_5001, ROOT_OF_5001));
        checks.due("another seed", 1, desk.make(1, ROOT_OF_5001));
        checks.due("a maze again", ROOT_OF_5001, desk.player(0));
    }
}
