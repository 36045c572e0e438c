import java.math.BigInteger;
import java.util.ArrayList;
import java.util.Arrays;
import java.util.HashMap;
import java.util.HashSet;
import java.util.LinkedHashSet;
import java.util.List;
import java.util.Map;
import java.util.Set;
import java.util.TreeSet;

/**
 * A second telling of the document, to hold MazeDesk against. It keeps close to the document's words
 * and takes other roads than MazeDesk does: nothing is kept between calls that could be found anew.
 */
final class PlainDesk {
    static final int NONE = -1;
    private static final int[] DX = {0, 1, 0, -1};
    private static final int[] DY = {-1, 0, 1, 0};

    /** One passage, known by the two places (cell and direction) from which it is seen. */
    private static final class Passage {
        boolean open = false;
        int door = NONE;
        int onlyFrom = NONE;
    }

    private final int width;
    private final int height;
    private final boolean wrapX;
    private final boolean wrapY;
    private final Set<Integer> cut = new HashSet<>();

    private boolean maze = false;
    private int root;
    private Map<Integer, Integer> tops;
    private Map<Integer, Integer> pops;
    private int circles;
    private Map<Integer, Passage> passages;
    private int[] keyCell;
    private int start;
    private int exit;
    private int playerCell;
    private Set<Integer> playerKeys;
    private int playerSteps;

    PlainDesk(int width, int height, int wrapped) {
        this.width = width < 1 ? 1 : width > 12 ? 12 : width;
        this.height = height < 1 ? 1 : height > 12 ? 12 : height;
        wrapX = (wrapped & 1) == 1;
        wrapY = (wrapped & 2) == 2;
    }

    private int cells() {
        return width * height;
    }

    private boolean usable(int cell) {
        return cell >= 0 && cell < cells() && !cut.contains(cell);
    }

    private int way(int cell, int direction) {
        if (!usable(cell) || direction < 0 || direction > 3) {
            return NONE;
        }
        int x = cell % width + DX[direction];
        int y = cell / width + DY[direction];
        if ((x < 0 || x >= width) && !wrapX || (y < 0 || y >= height) && !wrapY) {
            return NONE;
        }
        int next = (y + height) % height * width + (x + width) % width;
        return next != cell && usable(next) ? next : NONE;
    }

    private List<Integer> ways(int cell) {
        List<Integer> found = new ArrayList<>();
        for (int d = 0; d < 4; d++) {
            if (way(cell, d) != NONE) {
                found.add(d);
            }
        }
        return found;
    }

    private Passage at(int cell, int direction) {
        return maze && way(cell, direction) != NONE ? passages.get(cell * 4 + direction) : null;
    }

    boolean cut(int cell, boolean is) {
        if (cell < 0 || cell >= cells() || cut.contains(cell) == is) {
            return false;
        }
        if (is) {
            cut.add(cell);
        } else {
            cut.remove(cell);
        }
        maze = false;
        return true;
    }

    private static long next(long x) {
        return (x * 1664525L + 1013904223L) & 0xFFFFFFFFL;
    }

    private int directionOnStack(int seed, int cell, int depth) {
        long x = ((long) seed + (long) cell * -1640531535L) & 0xFFFFFFFFL;
        for (int i = 0; i <= depth; i++) {
            x = next(x);
        }
        List<Integer> ways = ways(cell);
        return ways.get((int) (x / 65536 % ways.size()));
    }

    int make(int seed, int wantedRoot) {
        if (!usable(wantedRoot)) {
            return NONE;
        }
        maze = false;
        root = wantedRoot;
        for (int cell = 0; cell < cells(); cell++) {
            if (usable(cell) && !leadsToRoot(cell)) {
                return 0;
            }
        }
        tops = new HashMap<>();
        pops = new HashMap<>();
        circles = 0;
        for (int cell = 0; cell < cells(); cell++) {
            if (usable(cell)) {
                pops.put(cell, 0);
                if (cell != root) {
                    tops.put(cell, directionOnStack(seed, cell, 0));
                }
            }
        }
        for (List<Integer> circle = someCircle(); circle != null; circle = someCircle()) {
            circles++;
            for (int cell : circle) {
                int depth = pops.get(cell) + 1;
                if (depth > 5000) {
                    return 2;
                }
                pops.put(cell, depth);
                tops.put(cell, directionOnStack(seed, cell, depth));
            }
        }
        layOut();
        return 1;
    }

    private boolean leadsToRoot(int from) {
        Set<Integer> seen = new LinkedHashSet<>(List.of(from));
        for (int size = 0; size < seen.size();) {
            size = seen.size();
            for (int cell : new ArrayList<>(seen)) {
                for (int d : ways(cell)) {
                    seen.add(way(cell, d));
                }
            }
        }
        return seen.contains(root);
    }

    /** From the last cell on, so in another order than MazeDesk does. */
    private List<Integer> someCircle() {
        for (int first = cells() - 1; first >= 0; first--) {
            List<Integer> trail = new ArrayList<>();
            int cell = first;
            while (tops.containsKey(cell) && !trail.contains(cell)) {
                trail.add(cell);
                cell = way(cell, tops.get(cell));
            }
            if (trail.contains(cell)) {
                return trail.subList(trail.indexOf(cell), trail.size());
            }
        }
        return null;
    }

    private void layOut() {
        passages = new HashMap<>();
        for (int cell = 0; cell < cells(); cell++) {
            for (int d : ways(cell)) {
                if (!passages.containsKey(cell * 4 + d)) {
                    Passage passage = new Passage();
                    passages.put(cell * 4 + d, passage);
                    passages.put(way(cell, d) * 4 + (d + 2) % 4, passage);
                }
            }
        }
        for (int cell : tops.keySet()) {
            passages.get(cell * 4 + tops.get(cell)).open = true;
        }
        keyCell = new int[] {NONE, NONE, NONE, NONE};
        start = root;
        exit = NONE;
        maze = true;
        again();
    }

    int top(int cell) {
        return maze ? tops.getOrDefault(cell, NONE) : NONE;
    }

    int popped(int cell) {
        return maze ? pops.getOrDefault(cell, NONE) : NONE;
    }

    int circles() {
        return maze ? circles : NONE;
    }

    /** Row by row with fractions, where MazeDesk has none. */
    long trees() {
        List<Integer> free = new ArrayList<>();
        for (int cell = 0; cell < cells(); cell++) {
            if (usable(cell)) {
                free.add(cell);
            }
        }
        if (free.isEmpty() || free.size() > 16) {
            return NONE;
        }
        int n = free.size() - 1;
        BigInteger[][] m = new BigInteger[n][n];
        for (int i = 0; i < n; i++) {
            Arrays.fill(m[i], BigInteger.ZERO);
            // The first cell is the one left out here.
            for (int d : ways(free.get(i + 1))) {
                int j = free.indexOf(way(free.get(i + 1), d)) - 1;
                m[i][i] = m[i][i].add(BigInteger.ONE);
                if (j >= 0) {
                    m[i][j] = m[i][j].subtract(BigInteger.ONE);
                }
            }
        }
        return determinant(m, n).longValueExact();
    }

    private static BigInteger determinant(BigInteger[][] m, int n) {
        BigInteger above = BigInteger.ONE;
        BigInteger below = BigInteger.ONE;
        for (int k = 0; k < n; k++) {
            int p = k;
            while (p < n && m[p][k].signum() == 0) {
                p++;
            }
            if (p == n) {
                return BigInteger.ZERO;
            }
            if (p != k) {
                BigInteger[] row = m[p];
                m[p] = m[k];
                m[k] = row;
                above = above.negate();
            }
            above = above.multiply(m[k][k]);
            for (int i = k + 1; i < n; i++) {
                BigInteger factor = m[i][k];
                for (int j = 0; j < n; j++) {
                    m[i][j] = m[i][j].multiply(m[k][k]).subtract(factor.multiply(m[k][j]));
                }
                below = below.multiply(m[k][k]);
            }
        }
        return above.divide(below);
    }

    int passage(int cell, int direction) {
        Passage p = at(cell, direction);
        return p == null ? NONE : p.open ? 1 : 0;
    }

    boolean open(int cell, int direction, boolean is) {
        Passage p = at(cell, direction);
        if (p == null || p.open == is) {
            return false;
        }
        p.open = is;
        p.door = NONE;
        p.onlyFrom = NONE;
        return true;
    }

    private boolean isDeadEnd(int cell) {
        int count = 0;
        for (int d = 0; d < 4; d++) {
            count += passage(cell, d) == 1 ? 1 : 0;
        }
        return count == 1;
    }

    int braid(int n) {
        if (!maze) {
            return NONE;
        }
        int opened = 0;
        for (int cell = 0; cell < cells(); cell++) {
            if (opened < n && isDeadEnd(cell)) {
                for (int d = 0; d < 4; d++) {
                    if (open(cell, d, true)) {
                        opened++;
                        break;
                    }
                }
            }
        }
        return opened;
    }

    int deadEnds() {
        int count = 0;
        for (int cell = 0; cell < cells(); cell++) {
            count += isDeadEnd(cell) ? 1 : 0;
        }
        return maze ? count : NONE;
    }

    boolean key(int k, int cell) {
        if (!maze || k < 0 || k > 3 || cell != NONE && !usable(cell)) {
            return false;
        }
        keyCell[k] = cell;
        return true;
    }

    boolean door(int k, int cell, int direction) {
        Passage p = at(cell, direction);
        if (k < -1 || k > 3 || p == null || !p.open) {
            return false;
        }
        p.door = k;
        return true;
    }

    boolean oneWay(int cell, int direction) {
        Passage p = at(cell, direction);
        if (p == null || !p.open) {
            return false;
        }
        int place = cell * 4 + direction;
        p.onlyFrom = p.onlyFrom == place ? NONE : place;
        return true;
    }

    boolean start(int cell) {
        if (!maze || !usable(cell)) {
            return false;
        }
        start = cell;
        return again();
    }

    boolean exit(int cell) {
        if (!maze || cell != NONE && !usable(cell)) {
            return false;
        }
        exit = cell;
        return true;
    }

    private boolean walkableButForDoor(int cell, int direction) {
        Passage p = at(cell, direction);
        return p != null && p.open && (p.onlyFrom == NONE || p.onlyFrom == cell * 4 + direction);
    }

    private int after(int cell, int direction, Set<Integer> keys) {
        if (!walkableButForDoor(cell, direction)) {
            return NONE;
        }
        int door = at(cell, direction).door;
        return door == NONE || keys.contains(door) ? way(cell, direction) : NONE;
    }

    private Set<Integer> keysIn(int cell) {
        Set<Integer> found = new TreeSet<>();
        for (int k = 0; k < 4; k++) {
            if (keyCell[k] == cell) {
                found.add(k);
            }
        }
        return found;
    }

    private TreeSet<Integer> reach(Set<Integer> keys) {
        TreeSet<Integer> reach = new TreeSet<>(List.of(start));
        for (int size = 0; size < reach.size();) {
            size = reach.size();
            for (int cell : new ArrayList<>(reach)) {
                for (int d = 0; d < 4; d++) {
                    if (after(cell, d, keys) != NONE) {
                        reach.add(after(cell, d, keys));
                    }
                }
            }
        }
        return reach;
    }

    int placeKeys(int seed) {
        if (!maze || exit == NONE) {
            return NONE;
        }
        Arrays.fill(keyCell, NONE);
        Set<Integer> put = new TreeSet<>();
        long x = seed & 0xFFFFFFFFL;
        while (true) {
            TreeSet<Integer> reach = reach(put);
            if (reach.contains(exit)) {
                return 1;
            }
            TreeSet<Integer> wanted = new TreeSet<>();
            for (int cell : reach) {
                for (int d = 0; d < 4; d++) {
                    if (walkableButForDoor(cell, d) && at(cell, d).door != NONE && !put.contains(at(cell, d).door)) {
                        wanted.add(at(cell, d).door);
                    }
                }
            }
            if (wanted.isEmpty()) {
                return 0;
            }
            x = next(x);
            keyCell[wanted.first()] = new ArrayList<>(reach).get((int) (x / 65536 % reach.size()));
            put.add(wanted.first());
        }
    }

    /**
     * All shortest walks at once: of each state (a cell, the keys had) how far the exit is, found by
     * mending the distances until none changes; then the first direction that comes nearer.
     */
    private List<Integer> firstEscape() {
        if (!maze || exit == NONE) {
            return null;
        }
        int far = 1000000;
        int[] distance = new int[cells() * 16];
        Arrays.fill(distance, far);
        for (int keys = 0; keys < 16; keys++) {
            distance[exit * 16 + keys] = 0;
        }
        for (boolean changed = true; changed;) {
            changed = false;
            for (int state = 0; state < distance.length; state++) {
                for (int d = 0; d < 4; d++) {
                    int next = stateAfter(state, d);
                    if (next != NONE && distance[next] + 1 < distance[state]) {
                        distance[state] = distance[next] + 1;
                        changed = true;
                    }
                }
            }
        }
        int state = start * 16 + mask(keysIn(start));
        if (distance[state] == far) {
            return null;
        }
        List<Integer> steps = new ArrayList<>();
        while (distance[state] > 0) {
            int d = 0;
            while (stateAfter(state, d) == NONE || distance[stateAfter(state, d)] != distance[state] - 1) {
                d++;
            }
            steps.add(d);
            state = stateAfter(state, d);
        }
        return steps;
    }

    private int stateAfter(int state, int direction) {
        Set<Integer> keys = new TreeSet<>();
        for (int k = 0; k < 4; k++) {
            if ((state % 16 >> k) % 2 == 1) {
                keys.add(k);
            }
        }
        int next = after(state / 16, direction, keys);
        if (next == NONE) {
            return NONE;
        }
        keys.addAll(keysIn(next));
        return next * 16 + mask(keys);
    }

    private static int mask(Set<Integer> keys) {
        int sum = 0;
        for (int k : keys) {
            sum += 1 << k;
        }
        return sum;
    }

    int escape() {
        List<Integer> steps = firstEscape();
        return steps == null ? NONE : steps.size();
    }

    int step(int i) {
        List<Integer> steps = firstEscape();
        return steps == null || i < 0 || i >= steps.size() ? NONE : steps.get(i);
    }

    boolean walk(int direction) {
        if (!maze) {
            return false;
        }
        int next = after(playerCell, direction, playerKeys);
        if (next == NONE) {
            return false;
        }
        playerCell = next;
        playerKeys.addAll(keysIn(next));
        playerSteps++;
        return true;
    }

    boolean again() {
        if (!maze) {
            return false;
        }
        playerCell = start;
        playerKeys = keysIn(start);
        playerSteps = 0;
        return true;
    }

    int player(int what) {
        if (!maze || what < 0 || what > 2) {
            return NONE;
        }
        return what == 0 ? playerCell : what == 1 ? mask(playerKeys) : playerSteps;
    }

    int drawing(int i) {
        String text = maze ? text() : "";
        return i < 0 || i >= text.length() ? NONE : text.charAt(i);
    }

    /** Painted from the cells outwards: each cell paints itself and what is on its four sides. */
    private String text() {
        char[][] lines = new char[2 * height + 1][2 * width + 1];
        for (int y = 0; y < lines.length; y++) {
            for (int x = 0; x < lines[y].length; x++) {
                lines[y][x] = x % 2 == 0 && y % 2 == 0 ? '+' : y % 2 == 0 ? '-' : '|';
            }
        }
        for (int cell = 0; cell < cells(); cell++) {
            int x = cell % width * 2 + 1;
            int y = cell / width * 2 + 1;
            lines[y][x] = cellSign(cell);
            for (int d = 0; d < 4; d++) {
                Passage p = at(cell, d);
                if (p != null && p.open) {
                    lines[y + DY[d]][x + DX[d]] = passageSign(p);
                }
            }
        }
        StringBuilder text = new StringBuilder();
        for (char[] line : lines) {
            text.append(line).append('\n');
        }
        return text.toString();
    }

    private char cellSign(int cell) {
        if (cut.contains(cell)) {
            return '#';
        }
        if (cell == start || cell == exit) {
            return cell == start ? 'S' : 'E';
        }
        for (int k = 0; k < 4; k++) {
            if (keyCell[k] == cell) {
                return "0123".charAt(k);
            }
        }
        return ' ';
    }

    private static char passageSign(Passage p) {
        if (p.door != NONE) {
            return "abcd".charAt(p.door);
        }
        return p.onlyFrom == NONE ? ' ' : "^>v<".charAt(p.onlyFrom % 4);
    }
}
