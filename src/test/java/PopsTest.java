/** Where one stack is popped 5,000 times, all stacks are as PlainDesk has them. */
public final class PopsTest {
    public static void main(String[] args) {
        Checks checks = new Checks();
        Desk desk = PoppedBoards.desk5000();
        PlainDesk plain = PoppedBoards.plainDesk5000();
        checks.due("5,000 pops", 1, desk.make(PoppedBoards.SEED_5000, PoppedBoards.ROOT_5000));
        checks.due("5,000 pops, plainly", 1, plain.make(PoppedBoards.SEED_5000, PoppedBoards.ROOT_5000));
        checks.due("popped at the crossing, plainly", 5000, plain.popped(PoppedBoards.CROSSING_5000));
        checks.due("circles", plain.circles(), desk.circles());
        for (int cell = 0; cell < 144; cell++) {
            checks.due("popped(" + cell + ")", plain.popped(cell), desk.popped(cell));
            checks.due("top(" + cell + ")", plain.top(cell), desk.top(cell));
        }
        PlainDesk more = PoppedBoards.plainDesk5001();
        checks.due("5,001 pops, plainly", 2, more.make(PoppedBoards.SEED_5001, PoppedBoards.ROOT_5001));
        checks.end();
    }
}
