import java.util.Arrays;

/** Mazes drawn from stacks of directions, with doors, keys, escapes, a player and a drawing. */
public final class MazeDesk {
    public static final int NONE = -1;

    private static final int UP = 0;
    private static final int RIGHT = 1;
    private static final int DOWN = 2;
    private static final int LEFT = 3;
    private static final int DIRECTIONS = 4;

    private static final int KEYS = 4;
    private static final int KEY_SETS = 1 << KEYS;

    private static final int NOT_CONNECTED = 0;
    private static final int DRAWN = 1;
    private static final int TOO_MANY_POPS = 2;

    private final Board board;
    private final Stacks stacks;
    private final TreeCount treeCount;
    private final Maze maze;
    private final Flood flood;
    private final KeyPlacer keyPlacer;
    private final Route route;
    private final Walker walker;
    private final Picture picture;
    private boolean hasMaze;

    public MazeDesk(int width, int height, int wrapped) {
        board = new Board(width, height, wrapped);
        stacks = new Stacks(board);
        treeCount = new TreeCount(board);
        maze = new Maze(board);
        flood = new Flood(board, maze);
        keyPlacer = new KeyPlacer(board, maze, flood);
        route = new Route(board, maze);
        walker = new Walker(maze);
        picture = new Picture(board, maze);
        hasMaze = false;
    }

    public boolean cut(int cell, boolean is) {
        if (!board.has(cell) || board.isCut(cell) == is) {
            return false;
        }
        board.setCut(cell, is);
        hasMaze = false;
        return true;
    }

    public int make(int seed, int root) {
        if (!board.isFree(root)) {
            return NONE;
        }
        hasMaze = false;
        if (flood.spreadByWays(root) < board.freeCells()) {
            return NOT_CONNECTED;
        }
        if (!stacks.settle(seed, root)) {
            return TOO_MANY_POPS;
        }
        maze.layOut(stacks, root);
        walker.begin();
        hasMaze = true;
        return DRAWN;
    }

    public int top(int cell) {
        return mazeHas(cell) ? stacks.topOf(cell) : NONE;
    }

    public int popped(int cell) {
        return mazeHas(cell) ? stacks.popsOf(cell) : NONE;
    }

    public int circles() {
        return hasMaze ? stacks.circleCount() : NONE;
    }

    public long trees() {
        return treeCount.count();
    }

    public int passage(int cell, int direction) {
        int place = mazePassage(cell, direction);
        if (place == NONE) {
            return NONE;
        }
        return maze.isOpen(place) ? 1 : 0;
    }

    public boolean open(int cell, int direction, boolean is) {
        int place = mazePassage(cell, direction);
        if (place == NONE || maze.isOpen(place) == is) {
            return false;
        }
        maze.setOpen(place, is);
        return true;
    }

    public int braid(int n) {
        return hasMaze ? maze.openDeadEnds(n) : NONE;
    }

    public int deadEnds() {
        return hasMaze ? maze.countDeadEnds() : NONE;
    }

    public boolean key(int k, int cell) {
        if (!hasMaze || !isKey(k) || !isFreeOrNone(cell)) {
            return false;
        }
        maze.putKey(k, cell);
        return true;
    }

    public boolean door(int k, int cell, int direction) {
        if (!isKey(k) && k != NONE) {
            return false;
        }
        int place = mazePassage(cell, direction);
        if (place == NONE || !maze.isOpen(place)) {
            return false;
        }
        maze.setDoor(place, k);
        return true;
    }

    public boolean oneWay(int cell, int direction) {
        int place = mazePassage(cell, direction);
        if (place == NONE || !maze.isOpen(place)) {
            return false;
        }
        maze.turnOneWay(place, direction);
        return true;
    }

    public boolean start(int cell) {
        if (!mazeHas(cell)) {
            return false;
        }
        maze.setStart(cell);
        walker.begin();
        return true;
    }

    public boolean exit(int cell) {
        if (!hasMaze || !isFreeOrNone(cell)) {
            return false;
        }
        maze.setExit(cell);
        return true;
    }

    public int placeKeys(int seed) {
        if (!hasMaze || maze.exitCell() == NONE) {
            return NONE;
        }
        return keyPlacer.placeAll(seed) ? 1 : 0;
    }

    public int escape() {
        return hasMaze ? route.length() : NONE;
    }

    public int step(int i) {
        return hasMaze ? route.directionAt(i) : NONE;
    }

    public boolean walk(int direction) {
        return hasMaze && walker.go(direction);
    }

    public boolean again() {
        if (!hasMaze) {
            return false;
        }
        walker.begin();
        return true;
    }

    public int player(int what) {
        return hasMaze ? walker.tell(what) : NONE;
    }

    public int drawing(int i) {
        return hasMaze ? picture.byteAt(i) : NONE;
    }

    private boolean mazeHas(int cell) {
        return hasMaze && board.isFree(cell);
    }

    private int mazePassage(int cell, int direction) {
        return hasMaze ? board.passageAt(cell, direction) : NONE;
    }

    private boolean isFreeOrNone(int cell) {
        return cell == NONE || board.isFree(cell);
    }

    private static boolean isKey(int k) {
        return k >= 0 && k < KEYS;
    }

    private static boolean holds(int keys, int k) {
        return (keys >> k & 1) != 0;
    }

    private static int lowestKey(int keys) {
        for (int k = 0; k < KEYS; k++) {
            if (holds(keys, k)) {
                return k;
            }
        }
        return NONE;
    }

    private static int back(int direction) {
        return direction ^ 2;
    }

    private static int nextOf(int x) {
        return x * 1664525 + 1013904223;
    }

    /** The number that x chooses among so many, from 0 on. */
    private static int chosenBy(int x, int howMany) {
        return howMany > 0 ? (x >>> 16) % howMany : 0;
    }

    /** The cells, which of them are cut, and the ways between them. */
    private static final class Board {
        private static final int LONGEST_SIDE = 12;

        private final int width;
        private final int height;
        private final int cells;
        private final boolean[] cutOut;
        // These three by cell * DIRECTIONS + direction.
        private final int[] beside;
        private final int[] leadsTo;
        private final int[] passageNumbers;
        private int free;

        Board(int wantedWidth, int wantedHeight, int wrapped) {
            width = Math.max(1, Math.min(LONGEST_SIDE, wantedWidth));
            height = Math.max(1, Math.min(LONGEST_SIDE, wantedHeight));
            cells = width * height;
            free = cells;
            cutOut = new boolean[cells];
            beside = new int[cells * DIRECTIONS];
            leadsTo = new int[cells * DIRECTIONS];
            passageNumbers = new int[cells * DIRECTIONS];
            placeCells((wrapped & 1) != 0, (wrapped & 2) != 0);
            findWays();
        }

        private void placeCells(boolean leftAndRight, boolean upAndDown) {
            for (int cell = 0; cell < cells; cell++) {
                int x = cell % width;
                int y = cell / width;
                int at = cell * DIRECTIONS;
                beside[at + UP] = y > 0 ? cell - width : acrossTo(upAndDown, cell, cell + cells - width);
                beside[at + RIGHT] = x < width - 1 ? cell + 1 : acrossTo(leftAndRight, cell, cell - width + 1);
                beside[at + DOWN] = y < height - 1 ? cell + width : acrossTo(upAndDown, cell, cell - cells + width);
                beside[at + LEFT] = x > 0 ? cell - 1 : acrossTo(leftAndRight, cell, cell + width - 1);
            }
        }

        /** On a side of length 1 the cell at the other end is the cell itself, which does not count. */
        private static int acrossTo(boolean wraps, int cell, int atOtherEnd) {
            return wraps && atOtherEnd != cell ? atOtherEnd : NONE;
        }

        private void findWays() {
            for (int cell = 0; cell < cells; cell++) {
                for (int direction = 0; direction < DIRECTIONS; direction++) {
                    int at = cell * DIRECTIONS + direction;
                    int next = beside[at];
                    boolean isWay = next != NONE && !cutOut[cell] && !cutOut[next];
                    leadsTo[at] = isWay ? next : NONE;
                    passageNumbers[at] = isWay ? passageNumber(cell, direction, next) : NONE;
                }
            }
        }

        private static int passageNumber(int cell, int direction, int next) {
            switch (direction) {
                case RIGHT:
                    return cell * 2;
                case DOWN:
                    return cell * 2 + 1;
                case LEFT:
                    return next * 2;
                default:
                    return next * 2 + 1;
            }
        }

        int width() {
            return width;
        }

        int height() {
            return height;
        }

        int cells() {
            return cells;
        }

        int freeCells() {
            return free;
        }

        boolean has(int cell) {
            return cell >= 0 && cell < cells;
        }

        boolean isCut(int cell) {
            return has(cell) && cutOut[cell];
        }

        boolean isFree(int cell) {
            return has(cell) && !cutOut[cell];
        }

        /** To be called only where it is a change, or the count of free cells would be wrong. */
        void setCut(int cell, boolean is) {
            cutOut[cell] = is;
            free += is ? -1 : 1;
            findWays();
        }

        /** The cell to which a way leads, or NONE if there is no way. */
        int ahead(int cell, int direction) {
            if (cell < 0 || cell >= cells || direction < 0 || direction >= DIRECTIONS) {
                return NONE;
            }
            return leadsTo[cell * DIRECTIONS + direction];
        }

        int passages() {
            return cells * 2;
        }

        /** A number that both sides of a passage share, or NONE if there is no way. */
        int passageAt(int cell, int direction) {
            if (cell < 0 || cell >= cells || direction < 0 || direction >= DIRECTIONS) {
                return NONE;
            }
            return passageNumbers[cell * DIRECTIONS + direction];
        }
    }

    /** The stacks of directions, from which circles are popped until a tree is left. */
    private static final class Stacks {
        private static final int MOST_POPS = 5000;
        private static final int CELL_FACTOR = -1640531535;
        // Each step but the last 144 is popped again, and 144 stacks are popped 5,000 times at most.
        private static final int MOST_STEPS = 1000000;

        private static final int UNSEEN = 0;
        private static final int ON_TRAIL = 1;
        private static final int IN_TREE = 2;

        private final Board board;
        private final int[] ways;
        private final int[] wayCounts;
        private final int[] xs;
        private final int[] tops;
        private final int[] pops;
        private final int[] marks;
        private int circlesPopped;

        Stacks(Board board) {
            this.board = board;
            int cells = board.cells();
            ways = new int[cells * DIRECTIONS];
            wayCounts = new int[cells];
            xs = new int[cells];
            tops = new int[cells];
            pops = new int[cells];
            marks = new int[cells];
        }

        int topOf(int cell) {
            return tops[cell];
        }

        int popsOf(int cell) {
            return pops[cell];
        }

        int circleCount() {
            return circlesPopped;
        }

        /** Every free cell must have ways to the root. False if a stack is popped too often. */
        boolean settle(int seed, int root) {
            lay(seed, root);
            for (int cell = 0; cell < board.cells(); cell++) {
                if (board.isFree(cell) && !joinTree(cell)) {
                    return false;
                }
            }
            return true;
        }

        private void lay(int seed, int root) {
            circlesPopped = 0;
            for (int cell = 0; cell < board.cells(); cell++) {
                listWays(cell);
                xs[cell] = seed + cell * CELL_FACTOR;
                pops[cell] = 0;
                marks[cell] = UNSEEN;
                tops[cell] = NONE;
                if (cell != root) {
                    uncoverNext(cell);
                }
            }
            marks[root] = IN_TREE;
        }

        private void listWays(int cell) {
            int count = 0;
            for (int direction = 0; direction < DIRECTIONS; direction++) {
                if (board.ahead(cell, direction) != NONE) {
                    ways[cell * DIRECTIONS + count] = direction;
                    count++;
                }
            }
            wayCounts[cell] = count;
        }

        private void uncoverNext(int cell) {
            if (wayCounts[cell] == 0) {
                return;
            }
            xs[cell] = nextOf(xs[cell]);
            tops[cell] = ways[cell * DIRECTIONS + chosenBy(xs[cell], wayCounts[cell])];
        }

        /** Follows the tops from a cell to the tree, popping each circle that the trail closes. */
        private boolean joinTree(int first) {
            int cell = first;
            for (int steps = 0; steps < MOST_STEPS && marks[cell] != IN_TREE; steps++) {
                marks[cell] = ON_TRAIL;
                cell = board.ahead(cell, tops[cell]);
                if (cell == NONE) {
                    return false;
                }
                if (marks[cell] == ON_TRAIL && !popCircle(cell)) {
                    return false;
                }
            }
            markTrail(first);
            return marks[cell] == IN_TREE;
        }

        private boolean popCircle(int entry) {
            int cell = entry;
            for (int n = 0; n < board.cells(); n++) {
                if (pops[cell] >= MOST_POPS) {
                    return false;
                }
                int next = board.ahead(cell, tops[cell]);
                pops[cell]++;
                uncoverNext(cell);
                marks[cell] = UNSEEN;
                cell = next;
                if (cell == entry || cell == NONE) {
                    break;
                }
            }
            circlesPopped++;
            return true;
        }

        private void markTrail(int first) {
            int cell = first;
            for (int n = 0; n < board.cells() && cell != NONE && marks[cell] == ON_TRAIL; n++) {
                marks[cell] = IN_TREE;
                cell = board.ahead(cell, tops[cell]);
            }
        }
    }

    /** Counts the trees of the board, as the determinant that the matrix-tree theorem names. */
    private static final class TreeCount {
        private static final int MOST_CELLS = 16;

        private final Board board;
        private final int[] rowOf;
        private final long[][] matrix;

        TreeCount(Board board) {
            this.board = board;
            rowOf = new int[board.cells()];
            matrix = new long[MOST_CELLS][MOST_CELLS];
        }

        long count() {
            int size = board.freeCells();
            if (size == 0 || size > MOST_CELLS) {
                return NONE;
            }
            numberRows();
            fillMatrix(size);
            return determinant(size - 1);
        }

        private void numberRows() {
            int row = 0;
            for (int cell = 0; cell < board.cells(); cell++) {
                if (board.isFree(cell)) {
                    rowOf[cell] = row;
                    row++;
                }
            }
        }

        private void fillMatrix(int size) {
            for (int row = 0; row < size; row++) {
                Arrays.fill(matrix[row], 0L);
            }
            for (int cell = 0; cell < board.cells(); cell++) {
                for (int direction = 0; direction < DIRECTIONS; direction++) {
                    int next = board.ahead(cell, direction);
                    if (next != NONE) {
                        matrix[rowOf[cell]][rowOf[cell]]++;
                        matrix[rowOf[cell]][rowOf[next]]--;
                    }
                }
            }
        }

        /**
         * Elimination without fractions: every entry stays a minor of the matrix, at most 4 to the
         * 15th, so a product of two fits a long. No row has to be swapped: no minor on the diagonal
         * is negative, and if one is 0, so is the whole.
         */
        private long determinant(int size) {
            long previous = 1;
            for (int k = 0; k < size; k++) {
                long pivot = matrix[k][k];
                if (pivot == 0) {
                    return 0;
                }
                for (int row = k + 1; row < size; row++) {
                    eliminate(row, k, size, previous);
                }
                previous = pivot;
            }
            return previous;
        }

        private void eliminate(int row, int k, int size, long previous) {
            if (previous == 0) {
                return;
            }
            long pivot = matrix[k][k];
            long factor = matrix[row][k];
            for (int column = k + 1; column < size; column++) {
                matrix[row][column] = (matrix[row][column] * pivot - factor * matrix[k][column]) / previous;
            }
        }
    }

    /** The passages with their doors, the keys, the start and the exit. */
    private static final class Maze {
        private final Board board;
        private final boolean[] opened;
        private final int[] doorKeys;
        private final int[] onlyDirections;
        private final int[] keyCells;
        private int startsAt;
        private int endsAt;
        private int changes;

        Maze(Board board) {
            this.board = board;
            opened = new boolean[board.passages()];
            doorKeys = new int[board.passages()];
            onlyDirections = new int[board.passages()];
            keyCells = new int[KEYS];
            startsAt = NONE;
            endsAt = NONE;
            changes = 0;
        }

        void layOut(Stacks stacks, int root) {
            for (int place = 0; place < board.passages(); place++) {
                setOpen(place, false);
            }
            liftKeys();
            for (int cell = 0; cell < board.cells(); cell++) {
                int place = board.passageAt(cell, stacks.topOf(cell));
                if (place != NONE) {
                    opened[place] = true;
                }
            }
            startsAt = root;
            endsAt = NONE;
            changes++;
        }

        /** How often anything changed, so that what was found out can be known to hold still. */
        int changeCount() {
            return changes;
        }

        boolean isOpen(int place) {
            return opened[place];
        }

        void setOpen(int place, boolean is) {
            opened[place] = is;
            doorKeys[place] = NONE;
            onlyDirections[place] = NONE;
            changes++;
        }

        int doorAt(int place) {
            return doorKeys[place];
        }

        void setDoor(int place, int k) {
            doorKeys[place] = k;
            changes++;
        }

        /** The one direction in which a passage can be walked, or NONE if there are two. */
        int onlyDirectionAt(int place) {
            return onlyDirections[place];
        }

        void turnOneWay(int place, int direction) {
            onlyDirections[place] = onlyDirections[place] == direction ? NONE : direction;
            changes++;
        }

        int startCell() {
            return startsAt;
        }

        void setStart(int cell) {
            startsAt = cell;
            changes++;
        }

        int exitCell() {
            return endsAt;
        }

        void setExit(int cell) {
            endsAt = cell;
            changes++;
        }

        void putKey(int k, int cell) {
            keyCells[k] = cell;
            changes++;
        }

        void liftKeys() {
            Arrays.fill(keyCells, NONE);
            changes++;
        }

        int keysIn(int cell) {
            int keys = 0;
            for (int k = 0; k < KEYS; k++) {
                if (keyCells[k] == cell) {
                    keys |= 1 << k;
                }
            }
            return keys;
        }

        /** The door that has to be unlocked to walk, or NONE. */
        int doorAhead(int cell, int direction) {
            int place = walkablePassage(cell, direction);
            return place == NONE ? NONE : doorKeys[place];
        }

        /** The cell to which a step leads, or NONE if it can't be walked with these keys. */
        int cellAfter(int cell, int direction, int keys) {
            int place = walkablePassage(cell, direction);
            if (place == NONE) {
                return NONE;
            }
            int door = doorKeys[place];
            if (door != NONE && !holds(keys, door)) {
                return NONE;
            }
            return board.ahead(cell, direction);
        }

        private int walkablePassage(int cell, int direction) {
            int place = board.passageAt(cell, direction);
            if (place == NONE || !opened[place]) {
                return NONE;
            }
            return onlyDirections[place] == back(direction) ? NONE : place;
        }

        int countDeadEnds() {
            int count = 0;
            for (int cell = 0; cell < board.cells(); cell++) {
                if (openPassages(cell) == 1) {
                    count++;
                }
            }
            return count;
        }

        int openDeadEnds(int most) {
            int count = 0;
            for (int cell = 0; cell < board.cells() && count < most; cell++) {
                if (openPassages(cell) == 1) {
                    int place = firstClosedPassage(cell);
                    if (place != NONE) {
                        setOpen(place, true);
                        count++;
                    }
                }
            }
            return count;
        }

        private int openPassages(int cell) {
            int count = 0;
            for (int direction = 0; direction < DIRECTIONS; direction++) {
                int place = board.passageAt(cell, direction);
                if (place != NONE && opened[place]) {
                    count++;
                }
            }
            return count;
        }

        private int firstClosedPassage(int cell) {
            for (int direction = 0; direction < DIRECTIONS; direction++) {
                int place = board.passageAt(cell, direction);
                if (place != NONE && !opened[place]) {
                    return place;
                }
            }
            return NONE;
        }
    }

    /** The cells that can be come to from one cell. */
    private static final class Flood {
        private final Board board;
        private final Maze maze;
        private final boolean[] reached;
        private final int[] queue;
        private int count;

        Flood(Board board, Maze maze) {
            this.board = board;
            this.maze = maze;
            reached = new boolean[board.cells()];
            queue = new int[board.cells()];
            count = 0;
        }

        boolean has(int cell) {
            return board.has(cell) && reached[cell];
        }

        int size() {
            return count;
        }

        /** The cell that has this number among those reached, in the order of cells. */
        int cellNumber(int number) {
            int left = number;
            for (int cell = 0; cell < reached.length; cell++) {
                if (reached[cell]) {
                    if (left == 0) {
                        return cell;
                    }
                    left--;
                }
            }
            return NONE;
        }

        int spreadByWays(int from) {
            startAt(from);
            for (int head = 0; head < count && head < queue.length; head++) {
                for (int direction = 0; direction < DIRECTIONS; direction++) {
                    reach(board.ahead(queue[head], direction));
                }
            }
            return count;
        }

        void spreadByWalking(int from, int keys) {
            startAt(from);
            for (int head = 0; head < count && head < queue.length; head++) {
                for (int direction = 0; direction < DIRECTIONS; direction++) {
                    reach(maze.cellAfter(queue[head], direction, keys));
                }
            }
        }

        private void startAt(int from) {
            for (int cell = 0; cell < reached.length; cell++) {
                reached[cell] = false;
            }
            count = 0;
            reach(from);
        }

        private void reach(int cell) {
            if (cell != NONE && !reached[cell]) {
                reached[cell] = true;
                queue[count] = cell;
                count++;
            }
        }
    }

    /** Puts keys where they can be come to, until the exit can be too. */
    private static final class KeyPlacer {
        private final Board board;
        private final Maze maze;
        private final Flood reach;

        KeyPlacer(Board board, Maze maze, Flood flood) {
            this.board = board;
            this.maze = maze;
            this.reach = flood;
        }

        /** True if the exit can be come to with the keys that were put. */
        boolean placeAll(int seed) {
            maze.liftKeys();
            int x = seed;
            int put = 0;
            for (int round = 0; round <= KEYS; round++) {
                reach.spreadByWalking(maze.startCell(), put);
                if (reach.has(maze.exitCell())) {
                    return true;
                }
                int k = leastKeyWanted(put);
                if (k == NONE) {
                    return false;
                }
                x = nextOf(x);
                maze.putKey(k, reach.cellNumber(chosenBy(x, reach.size())));
                put |= 1 << k;
            }
            return false;
        }

        private int leastKeyWanted(int put) {
            int wanted = 0;
            for (int cell = 0; cell < board.cells(); cell++) {
                if (reach.has(cell)) {
                    wanted |= keysWantedAt(cell);
                }
            }
            return lowestKey(wanted & ~put);
        }

        private int keysWantedAt(int cell) {
            int keys = 0;
            for (int direction = 0; direction < DIRECTIONS; direction++) {
                int k = maze.doorAhead(cell, direction);
                if (k != NONE) {
                    keys |= 1 << k;
                }
            }
            return keys;
        }
    }

    /**
     * The shortest escape. A state is a cell together with the keys that are had. States are come
     * upon in the order of their first walks by directions, so the first walk to the exit is the one.
     */
    private static final class Route {
        private static final int UNSEEN = -2;

        private final Maze maze;
        private final int[] cameFrom;
        private final int[] cameBy;
        private final int[] queue;
        private int queued;
        private int lastState;
        private int stepCount;
        private int knownAtChange;

        Route(Board board, Maze maze) {
            this.maze = maze;
            int states = board.cells() * KEY_SETS;
            cameFrom = new int[states];
            cameBy = new int[states];
            queue = new int[states];
            stepCount = NONE;
            knownAtChange = NONE;
        }

        int length() {
            if (knownAtChange != maze.changeCount()) {
                stepCount = find();
                knownAtChange = maze.changeCount();
            }
            return stepCount;
        }

        /** Goes back from the last step to this one: a row of all steps would only take room. */
        int directionAt(int i) {
            if (i < 0 || i >= length()) {
                return NONE;
            }
            int state = lastState;
            for (int later = stepCount - 1; later > i && cameFrom[state] >= 0; later--) {
                state = cameFrom[state];
            }
            return cameBy[state];
        }

        private int find() {
            if (maze.exitCell() == NONE) {
                return NONE;
            }
            Arrays.fill(cameFrom, UNSEEN);
            queued = 0;
            comeUpon(maze.startCell(), 0, NONE, NONE);
            for (int head = 0; head < queued && head < queue.length; head++) {
                int state = queue[head];
                if (state / KEY_SETS == maze.exitCell()) {
                    lastState = state;
                    return stepsTo(state);
                }
                lookAround(state);
            }
            return NONE;
        }

        private void lookAround(int state) {
            int cell = state / KEY_SETS;
            int keys = state % KEY_SETS;
            for (int direction = 0; direction < DIRECTIONS; direction++) {
                int next = maze.cellAfter(cell, direction, keys);
                if (next != NONE) {
                    comeUpon(next, keys, state, direction);
                }
            }
        }

        private void comeUpon(int cell, int keysBefore, int from, int direction) {
            int state = cell * KEY_SETS + (keysBefore | maze.keysIn(cell));
            if (cameFrom[state] == UNSEEN) {
                cameFrom[state] = from;
                cameBy[state] = direction;
                queue[queued] = state;
                queued++;
            }
        }

        private int stepsTo(int last) {
            int count = 0;
            for (int state = last; cameFrom[state] >= 0 && count < cameFrom.length; state = cameFrom[state]) {
                count++;
            }
            return count;
        }
    }

    /** The player. */
    private static final class Walker {
        private final Maze maze;
        private int at;
        private int keysHad;
        private int stepsGone;

        Walker(Maze maze) {
            this.maze = maze;
            at = NONE;
            keysHad = 0;
            stepsGone = 0;
        }

        void begin() {
            at = maze.startCell();
            keysHad = maze.keysIn(at);
            stepsGone = 0;
        }

        boolean go(int direction) {
            int next = maze.cellAfter(at, direction, keysHad);
            if (next == NONE) {
                return false;
            }
            at = next;
            keysHad |= maze.keysIn(next);
            stepsGone++;
            return true;
        }

        int tell(int what) {
            switch (what) {
                case 0:
                    return at;
                case 1:
                    return keysHad;
                case 2:
                    return stepsGone;
                default:
                    return NONE;
            }
        }
    }

    /** The maze as text. */
    private static final class Picture {
        private static final int LINE_END = 10;
        private static final String ARROWS = "^>v<";

        private final Board board;
        private final Maze maze;

        Picture(Board board, Maze maze) {
            this.board = board;
            this.maze = maze;
        }

        int byteAt(int i) {
            int lines = 2 * board.height() + 1;
            int lineLength = 2 * board.width() + 2;
            if (i < 0 || i >= lines * lineLength) {
                return NONE;
            }
            int x = i % lineLength;
            return x == lineLength - 1 ? LINE_END : signAt(x, i / lineLength);
        }

        private char signAt(int x, int y) {
            boolean betweenColumns = x % 2 == 0;
            boolean betweenRows = y % 2 == 0;
            if (betweenColumns && betweenRows) {
                return '+';
            }
            if (betweenRows) {
                return signBetweenRows(x / 2, y / 2);
            }
            if (betweenColumns) {
                return signBetweenColumns(x / 2, y / 2);
            }
            return signOfCell(y / 2 * board.width() + x / 2);
        }

        private char signOfCell(int cell) {
            if (!board.isFree(cell)) {
                return '#';
            }
            if (cell == maze.startCell()) {
                return 'S';
            }
            if (cell == maze.exitCell()) {
                return 'E';
            }
            int k = lowestKey(maze.keysIn(cell));
            return k == NONE ? ' ' : (char) ('0' + k);
        }

        private char signBetweenRows(int column, int rowBelow) {
            if (rowBelow < board.height()) {
                return signOfPassage(rowBelow * board.width() + column, UP, '-');
            }
            return signOfPassage((rowBelow - 1) * board.width() + column, DOWN, '-');
        }

        private char signBetweenColumns(int columnToRight, int row) {
            if (columnToRight < board.width()) {
                return signOfPassage(row * board.width() + columnToRight, LEFT, '|');
            }
            return signOfPassage(row * board.width() + columnToRight - 1, RIGHT, '|');
        }

        private char signOfPassage(int cell, int direction, char wall) {
            int place = board.passageAt(cell, direction);
            if (place == NONE || !maze.isOpen(place)) {
                return wall;
            }
            int door = maze.doorAt(place);
            if (door != NONE) {
                return (char) ('a' + door);
            }
            int only = maze.onlyDirectionAt(place);
            return only == NONE ? ' ' : ARROWS.charAt(only);
        }
    }
}
