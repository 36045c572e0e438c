/**
 * A MazeDesk whose calls are counted: what it answers after the 512th is free, so no test may ask then.
 * Beside the document's calls there are some that ask for much at once.
 */
final class Desk {
    static final int MOST_CALLS = 512;
    private static final int NONE = MazeDesk.NONE;
    private static final String ARROWS = "^>v<";

    private final MazeDesk desk;
    private final int cells;
    private int calls = 0;

    Desk(int width, int height, int wrapped) {
        desk = new MazeDesk(width, height, wrapped);
        cells = Math.max(1, Math.min(12, width)) * Math.max(1, Math.min(12, height));
    }

    private MazeDesk called() {
        calls++;
        if (calls > MOST_CALLS) {
            throw new IllegalStateException("the test calls one object more than " + MOST_CALLS + " times");
        }
        return desk;
    }

    int callsLeft() {
        return MOST_CALLS - calls;
    }

    int cells() {
        return cells;
    }

    boolean cut(int cell, boolean is) {
        return called().cut(cell, is);
    }

    int make(int seed, int root) {
        return called().make(seed, root);
    }

    int top(int cell) {
        return called().top(cell);
    }

    int popped(int cell) {
        return called().popped(cell);
    }

    int circles() {
        return called().circles();
    }

    long trees() {
        return called().trees();
    }

    int passage(int cell, int direction) {
        return called().passage(cell, direction);
    }

    boolean open(int cell, int direction, boolean is) {
        return called().open(cell, direction, is);
    }

    int braid(int n) {
        return called().braid(n);
    }

    int deadEnds() {
        return called().deadEnds();
    }

    boolean key(int k, int cell) {
        return called().key(k, cell);
    }

    boolean door(int k, int cell, int direction) {
        return called().door(k, cell, direction);
    }

    boolean oneWay(int cell, int direction) {
        return called().oneWay(cell, direction);
    }

    boolean start(int cell) {
        return called().start(cell);
    }

    boolean exit(int cell) {
        return called().exit(cell);
    }

    int placeKeys(int seed) {
        return called().placeKeys(seed);
    }

    int escape() {
        return called().escape();
    }

    int step(int i) {
        return called().step(i);
    }

    boolean walk(int direction) {
        return called().walk(direction);
    }

    boolean again() {
        return called().again();
    }

    int player(int what) {
        return called().player(what);
    }

    int drawing(int i) {
        return called().drawing(i);
    }

    /** A desk with a maze; which one does not matter to who asks for it. */
    static Desk made(int width, int height, int wrapped, int root) {
        Desk desk = new Desk(width, height, wrapped);
        if (desk.make(1, root) != 1) {
            throw new IllegalStateException("no maze");
        }
        return desk;
    }

    /** A maze from cell 0 in which all passages are open, whatever was drawn. */
    static Desk opened(int width, int height, int wrapped) {
        return made(width, height, wrapped, 0).openAll(true);
    }

    /** A maze from cell 0 in which all passages are closed. */
    static Desk closed(int width, int height, int wrapped) {
        return made(width, height, wrapped, 0).openAll(false);
    }

    /** Opens, or closes, all passages. Each can be had to the right or downwards of a cell. */
    Desk openAll(boolean is) {
        for (int cell = 0; cell < cells; cell++) {
            open(cell, 1, is);
            open(cell, 2, is);
        }
        return this;
    }

    Desk cutAll(int... which) {
        for (int cell : which) {
            cut(cell, true);
        }
        return this;
    }

    /**
     * Three by three cells, the last one cut, with something of everything: two doors, a one-way, three
     * keys, an exit, and a player who has walked two steps and has key 1.
     */
    static Desk busy() {
        Desk desk = new Desk(3, 3, 0).cutAll(8);
        desk.make(7, 4);
        desk.openAll(true);
        desk.open(0, 1, false);
        desk.oneWay(1, 1);
        desk.door(0, 3, 2);
        desk.door(1, 7, 3);
        desk.key(0, 2);
        desk.key(1, 3);
        desk.key(2, 0);
        desk.exit(6);
        desk.walk(3);
        desk.walk(1);
        return desk;
    }

    static final String BUSY_PICTURE = "+-+-+-+\n|2| >0|\n+ + + +\n|1 S  |\n+a+ +-+\n|Eb |#|\n+-+-+-+\n";

    String picture() {
        StringBuilder text = new StringBuilder();
        int sign = drawing(0);
        for (int i = 1; sign != NONE; i++) {
            text.append((char) sign);
            sign = drawing(i);
        }
        return text.toString();
    }

    /** The steps of the escape, as arrows. */
    String escapeSteps() {
        StringBuilder text = new StringBuilder();
        int direction = step(0);
        for (int i = 1; direction != NONE; i++) {
            text.append(arrow(direction));
            direction = step(i);
        }
        return text.toString();
    }

    /** The directions in which a cell has ways, as arrows. */
    String waysOf(int cell) {
        StringBuilder text = new StringBuilder();
        for (int direction = 0; direction < 4; direction++) {
            if (passage(cell, direction) != NONE) {
                text.append(arrow(direction));
            }
        }
        return text.toString();
    }

    private static String arrow(int direction) {
        return direction >= 0 && direction < 4 ? ARROWS.substring(direction, direction + 1) : "(" + direction + ")";
    }

    /** The player, as "cell/keys/steps". */
    String playerTold() {
        return player(0) + "/" + player(1) + "/" + player(2);
    }

    /** Everything that can be asked: if two such texts are alike, nothing happened in between. */
    String all() {
        StringBuilder text = new StringBuilder();
        text.append("circles ").append(circles()).append(", trees ").append(trees());
        text.append(", dead ends ").append(deadEnds()).append(", player ").append(playerTold());
        text.append(", escape ").append(escape()).append(' ').append(escapeSteps()).append('\n');
        for (int cell = 0; cell < cells; cell++) {
            text.append(cell).append(": ").append(top(cell)).append(' ').append(popped(cell)).append(' ')
                    .append(passage(cell, 1)).append(' ').append(passage(cell, 2)).append('\n');
        }
        return text.append(picture()).toString();
    }
}
