/** Promises 26 and 27: walks and walkers. */
final class WalksTest {
    private static final Checks CHECKS = new Checks("WalksTest");
    private static final int NONE = FairBoards.NONE;

    public static void main(String[] args) {
        noWay();
        wholes();
        firstOfSeveral();
        fewestOfSeveral();
        mostOfBoards();
        closedBoards();
        greatHeaps();
        refusals();
        walkers();
        worn();
        CHECKS.end();
    }

    private static void due(String call, long got, long want) {
        CHECKS.due(call, got, want);
    }

    private static void walk(FairBoards x, int from, int heap, int to, int n, int want, int... boards) {
        String call = "walk(" + from + ", " + heap + ", " + to + ", " + n + ", ";
        due(call + "-1)", x.walk(from, heap, to, n, -1), want);
        due(call + "-2)", x.walk(from, heap, to, n, -2), boards.length);
        for (int i = 0; i < 7; i++) {
            due(call + i + ")", x.walk(from, heap, to, n, i), i < boards.length ? boards[i] : NONE);
        }
        due(call + "-3)", x.walk(from, heap, to, n, -3), NONE);
    }

    private static void noWay() {
        FairBoards x = Checks.fair("1a>2b;1b>2c");
        due("no way: heap", x.walk(0, 5, 2, 1, -1), 0);
        due("no way: boards", x.walk(0, 5, 2, 1, -2), NONE);
        due("no way: first", x.walk(0, 5, 2, 1, 0), NONE);
        due("no way back", x.walk(2, 5, 0, 5, -2), NONE);
        walk(x, 0, 5, 0, 0, 5);
        walk(x, 0, 0, 0, 5, 0);
        walk(x, 0, 5, 2, 2, 20, 0, 1);
        walk(x, 0, 5, 2, 5, 20, 0, 1);
    }

    private static void wholes() {
        FairBoards x = Checks.fair("3a>5b;4b>7c");
        walk(x, 0, 11, 1, 5, 15, 0);
        walk(x, 0, 2, 1, 5, 0, 0);
        walk(x, 0, 11, 2, 5, 21, 0, 1);
        x.set(0, 1);
        walk(x, 0, 11, 2, 5, 18, 0, 1);
        x.set(0, 50);
        walk(x, 0, 11, 2, 5, 0, 0, 1);
        walk(x, 0, 12, 2, 5, 1, 0, 1);
    }

    /* A smaller heap on the way may end the same: then the first by boards is the one. */
    private static void firstOfSeveral() {
        FairBoards x = Checks.fair("1a>3b;1a>4b;5b>1c;5b>1c");
        walk(x, 0, 2, 2, 2, 1, 0, 2);
        walk(x, 0, 3, 2, 2, 2, 1, 2);
        FairBoards y = Checks.fair("1a>9b;1a>1c;1b>1d;1c>9d");
        walk(y, 0, 7, 3, 2, 63, 0, 2);
        y.change(3, 0, 10);
        walk(y, 0, 7, 3, 2, 70, 1, 3);
    }

    private static void fewestOfSeveral() {
        FairBoards x = Checks.fair("1a>1b;1b>1c;1a>1c;1c>1a");
        walk(x, 0, 6, 2, 5, 6, 2);
        walk(x, 0, 6, 0, 5, 6);
        walk(x, 0, 6, 1, 5, 6, 0);
        x.change(3, 0, 2);
        walk(x, 0, 6, 2, 5, 24, 2, 3, 2, 3, 2);
        walk(x, 0, 6, 2, 4, 12, 2, 3, 2);
        walk(x, 0, 6, 2, 3, 12, 2, 3, 2);
        walk(x, 0, 6, 0, 5, 24, 2, 3, 2, 3);
    }

    private static void mostOfBoards() {
        FairBoards x = Checks.fair("3a>5b;1a>1b");
        x.change(0, 1, 7);
        walk(x, 0, 100, 1, 1, 100, 1);
        x.change(1, 1, 10);
        walk(x, 0, 100, 1, 1, 10, 0);
        x.change(1, 1, 11);
        walk(x, 0, 100, 1, 1, 11, 1);
        x.change(0, 1, 2);
        x.change(1, 1, 1);
        walk(x, 0, 100, 1, 1, 1, 1);
        x.hours(1, 1, 1);
        walk(x, 0, 100, 1, 1, 0, 0);
    }

    private static void closedBoards() {
        FairBoards x = Checks.fair("1a>9b;1a>2b;1b>1a");
        x.hours(0, 5, 9);
        walk(x, 0, 1, 1, 1, 2, 1);
        x.set(1, 9);
        walk(x, 0, 1, 1, 1, 9, 0);
        x.set(1, 10);
        walk(x, 0, 1, 1, 3, 4, 1, 2, 1);
    }

    private static void greatHeaps() {
        FairBoards x = Checks.fair("1a>99b;1b>99a");
        walk(x, 0, 1000000, 1, 1, 99000000, 0);
        walk(x, 0, 1000000, 1, 5, 99000000, 0);
        walk(x, 0, 1000000, 0, 5, 99000000, 0, 1);
        walk(x, 0, 1, 1, 5, 99000000, 0, 1, 0, 1, 0);
        walk(x, 0, 1, 1, 3, 970299, 0, 1, 0);
    }

    private static void refusals() {
        FairBoards x = Checks.fair("1a>2b;1b>1a");
        due("from -1", x.walk(-1, 0, 0, 0, -1), -1);
        due("from 8", x.walk(8, 0, 0, 0, -1), -1);
        due("to -1", x.walk(0, 0, -1, 0, -1), -1);
        due("to 8, n 6", x.walk(0, 0, 8, 6, -1), -1);
        due("n 6", x.walk(0, 0, 1, 6, -1), -2);
        due("n -1", x.walk(0, 0, 1, -1, -1), -2);
        due("heap -1", x.walk(0, -1, 1, 1, -1), -2);
        due("heap 1000001", x.walk(0, 1000001, 1, 1, -1), -2);
        due("walkers(2)", x.walkers(2), -1);
        due("walkers(-2)", x.walkers(-2), -1);
    }

    private static void walkers(FairBoards x, int went, int... gives) {
        due("walkers(-1)", x.walkers(-1), went);
        for (int board = 0; board < gives.length; board++) {
            due("walkers(" + board + ")", x.walkers(board), gives[board]);
        }
    }

    private static void walkers() {
        FairBoards x = Checks.fair("1a>4b;1b>1a");
        walkers(x, 3, 1, 1);
        due("GIVES stay", x.of(0, 3), 4);
        due("rounds stay", x.rounds(1), 1);
        x.set(2, 2);
        walkers(x, 2, 1, 1);
        x.set(2, 1);
        x.set(0, 1);
        walkers(x, 2, 2, 1);
        x.set(0, 0);
        x.change(1, 0, 2);
        walkers(x, 3, 1, 1);
        x.hours(1, 3, 3);
        walkers(x, 0, 4, 2);
        x.set(1, 3);
        walkers(x, 3, 1, 1);
        x.board(1, 1, 0, 3);
        walkers(x, 3, 1, 1, 1);
        x.set(2, 98);
        walkers(x, 2, 1, 1, 1);
    }

    /* Each walker takes the most of what those ahead have left. */
    private static void worn() {
        FairBoards x = Checks.fair("1b>1a;1a>2b;1b>1a;1b>1c;1c>1a;1c>2b");
        walkers(x, 2, 1, 1, 1, 1, 1, 1);
        FairBoards y = Checks.fair("1a>5b;1a>4b;1b>1a;1c>3d;2d>2c");
        walkers(y, 8, 1, 1, 1, 2, 1);
        y.set(2, 3);
        walkers(y, 4, 1, 1, 1, 1, 1);
    }
}
