import java.util.ArrayList;
import java.util.List;

/** Looks at each set of passages of a small board and counts those that are trees of all its cells. */
final class TreesOneByOne {
    private TreesOneByOne() {
    }

    static long count(int width, int height, int wrapped, int cutMask) {
        List<int[]> passages = passages(width, height, wrapped, cutMask);
        int cells = width * height - Integer.bitCount(cutMask);
        long count = 0;
        for (int set = 0; set < 1 << passages.size(); set++) {
            if (Integer.bitCount(set) == cells - 1 && hasNoCircle(passages, set, width * height)) {
                count++;
            }
        }
        return count;
    }

    private static List<int[]> passages(int width, int height, int wrapped, int cutMask) {
        List<int[]> found = new ArrayList<>();
        for (int cell = 0; cell < width * height; cell++) {
            int x = cell % width;
            int y = cell / width;
            if (x + 1 < width || wrapped % 2 == 1) {
                add(found, cell, y * width + (x + 1) % width, cutMask);
            }
            if (y + 1 < height || wrapped >= 2) {
                add(found, cell, (y + 1) % height * width + x, cutMask);
            }
        }
        return found;
    }

    private static void add(List<int[]> found, int a, int b, int cutMask) {
        if (a != b && (cutMask >> a & 1) == 0 && (cutMask >> b & 1) == 0) {
            found.add(new int[] {a, b});
        }
    }

    private static boolean hasNoCircle(List<int[]> passages, int set, int cells) {
        int[] group = new int[cells];
        for (int cell = 0; cell < cells; cell++) {
            group[cell] = cell;
        }
        for (int i = 0; i < passages.size(); i++) {
            if ((set >> i & 1) == 1) {
                int a = group[passages.get(i)[0]];
                int b = group[passages.get(i)[1]];
                if (a == b) {
                    return false;
                }
                for (int cell = 0; cell < cells; cell++) {
                    group[cell] = group[cell] == a ? b : group[cell];
                }
            }
        }
        return true;
    }
}
