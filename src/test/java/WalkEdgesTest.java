/** The boundary cases that the document names of walks and in promises 26 and 27, sentence by sentence. */
final class WalkEdgesTest {
    private static final Checks CHECKS = new Checks("WalkEdgesTest");
    private static final int MIN = Integer.MIN_VALUE;
    private static final int MAX = Integer.MAX_VALUE;
    private static final int NONE = -6;
    private static final int UNKNOWN = -1;
    private static final int OUTSIDE = -2;

    public static void main(String[] args) {
        walkUnknown();
        walkHeap();
        walkSteps();
        walkPlaces();
        noWay();
        toItself();
        emptyHeap();
        wholes();
        leftThere();
        most();
        betweenHeaps();
        anyAgain();
        openBoards();
        oneGivenAtLeast();
        fewest();
        firstByBoards();
        walkersUnknown();
        walkersNone();
        walkersOneAtLeast();
        walkersDrop();
        walkersOfGives();
        walkersOthersStay();
        walkersFirstSuch();
        walkersMany();
        walkersChangeNothing();
        CHECKS.end();
    }

    private static void due(String call, long got, long want) {
        CHECKS.due(call, got, want);
    }

    private static void walk(FairBoards x, int from, int heap, int to, int n, int want, int... boards) {
        String call = "walk(" + from + ", " + heap + ", " + to + ", " + n + ", ";
        due(call + "-1)", x.walk(from, heap, to, n, -1), want);
        due(call + "-2)", x.walk(from, heap, to, n, -2), boards.length);
        for (int i = 0; i <= 5; i++) {
            due(call + i + ")", x.walk(from, heap, to, n, i), i < boards.length ? boards[i] : NONE);
        }
    }

    private static void lost(FairBoards x, int from, int heap, int to, int n) {
        String call = "walk(" + from + ", " + heap + ", " + to + ", " + n + ", ";
        due(call + "-1)", x.walk(from, heap, to, n, -1), 0);
        due(call + "-2)", x.walk(from, heap, to, n, -2), NONE);
        due(call + "0)", x.walk(from, heap, to, n, 0), NONE);
    }

    private static void walkers(FairBoards x, int went, int... gives) {
        due("walkers(-1)", x.walkers(-1), went);
        for (int board = 0; board < gives.length; board++) {
            due("walkers(" + board + ")", x.walkers(board), gives[board]);
        }
    }

    // ---- promise 26

    private static void walkUnknown() {
        CHECKS.about("26: walk: UNKNOWN: coins");
        FairBoards x = Checks.fair("1a>2b");
        for (int coin : new int[] {MIN, -1, 8, 9, MAX}) {
            due("from " + coin, x.walk(coin, 1, 0, 1, -1), UNKNOWN);
            due("to " + coin, x.walk(0, 1, coin, 1, -1), UNKNOWN);
            due("both " + coin, x.walk(coin, 1, coin, 1, -1), UNKNOWN);
            due("from " + coin + ", heap -1", x.walk(coin, -1, 0, 1, -1), UNKNOWN);
            due("to " + coin + ", n 6", x.walk(0, 1, coin, 6, -1), UNKNOWN);
        }
        walk(x, 7, 9, 7, 5, 9);
    }

    private static void walkHeap() {
        CHECKS.about("26: walk: a HEAP (0 to 1000000); OUTSIDE");
        FairBoards x = Checks.fair("1a>1b");
        for (int heap : new int[] {MIN, -1, 1000001, MAX}) {
            for (int i : new int[] {-2, -1, 0, 9}) {
                due("heap " + heap, x.walk(0, heap, 1, 1, i), OUTSIDE);
                due("heap " + heap + " to itself", x.walk(0, heap, 0, 0, i), OUTSIDE);
            }
        }
        walk(x, 0, 0, 1, 1, 0, 0);
        walk(x, 0, 1, 1, 1, 1, 0);
        walk(x, 0, 1000000, 1, 1, 1000000, 0);
        walk(x, 0, 1000000, 0, 0, 1000000);
    }

    private static void walkSteps() {
        CHECKS.about("26: walk: up to n of them (0 to 5); OUTSIDE");
        FairBoards x = Checks.fair("1a>1b;1b>1c;1c>1d;1d>1e;1e>1f;1f>1g");
        for (int n : new int[] {MIN, -1, 6, 7, MAX}) {
            for (int i : new int[] {-2, -1, 0, 9}) {
                due("n " + n, x.walk(0, 1, 1, n, i), OUTSIDE);
                due("n " + n + " to itself", x.walk(0, 1, 0, n, i), OUTSIDE);
            }
        }
        for (int to = 1; to <= 6; to++) {
            for (int n = 0; n <= 5; n++) {
                due("heap of " + to + " by " + n, x.walk(0, 3, to, n, -1), n >= to ? 3 : 0);
                due("boards of " + to + " by " + n, x.walk(0, 3, to, n, -2), n >= to ? to : NONE);
                due("last of " + to + " by " + n, x.walk(0, 3, to, n, to - 1), n >= to ? to - 1 : NONE);
            }
        }
    }

    private static void walkPlaces() {
        CHECKS.about("26: walk: the heap (i = -1), how many boards (-2), the i-th board; NONE");
        FairBoards x = Checks.fair("1a>2b;1b>2a");
        walk(x, 0, 1, 1, 5, 32, 0, 1, 0, 1, 0);
        for (int i : new int[] {MIN, -4, -3, 5, 6, 7, 8, 32, MAX}) {
            due("i " + i, x.walk(0, 1, 1, 5, i), NONE);
            due("i " + i + " of no board", x.walk(0, 1, 0, 0, i), NONE);
            due("i " + i + " of no way", x.walk(0, 1, 2, 5, i), NONE);
        }
    }

    private static void noWay() {
        CHECKS.about("26: walk: No way: 0, and NONE boards");
        lost(new FairBoards(), 0, 9, 7, 5);
        lost(Checks.fair("1a>1b"), 1, 9, 0, 5);
        lost(Checks.fair("1a>1b"), 0, 9, 1, 0);
        lost(Checks.fair("2b>1c"), 0, 9, 2, 5);
        lost(Checks.fair("1a>1b;1b>1c"), 0, 9, 2, 1);
        lost(Checks.fair("1a>1b;1b>1c;1c>1d;1d>1e;1e>1f;1f>1g"), 0, 9, 6, 5);
    }

    private static void toItself() {
        CHECKS.about("26: walk: of one coin to itself no board is a way, too");
        FairBoards x = Checks.fair("2a>1b;1b>3a");
        walk(new FairBoards(), 3, 9, 3, 5, 9);
        walk(new FairBoards(), 3, 0, 3, 0, 0);
        walk(x, 0, 10, 0, 0, 10);
        walk(x, 0, 10, 0, 1, 10);
        walk(x, 0, 10, 0, 2, 15, 0, 1);
        walk(x, 0, 1, 0, 5, 1);
        walk(x, 1, 1, 1, 5, 1);
        walk(x, 1, 2, 1, 5, 4, 1, 0, 1, 0);
    }

    private static void emptyHeap() {
        CHECKS.about("26: walk: a way that ends with nothing is a way");
        FairBoards x = Checks.fair("5a>9b;1b>1c");
        walk(x, 0, 0, 1, 5, 0, 0);
        walk(x, 0, 4, 1, 5, 0, 0);
        walk(x, 0, 4, 2, 5, 0, 0, 1);
        walk(x, 0, 0, 0, 5, 0);
    }

    private static void wholes() {
        CHECKS.about("Terms 4: as many TAKES as there are whole in the heap; Quotients are cut");
        FairBoards x = Checks.fair("5a>7b");
        int[][] want = {{0, 0}, {4, 0}, {5, 7}, {9, 7}, {10, 14}, {14, 14}, {999999, 1399993}, {1000000, 1400000}};
        for (int[] row : want) {
            walk(x, 0, row[0], 1, 1, row[1], 0);
        }
        FairBoards y = Checks.fair("99a>99b");
        walk(y, 0, 98, 1, 1, 0, 0);
        walk(y, 0, 99, 1, 1, 99, 0);
        walk(y, 0, 197, 1, 1, 99, 0);
        walk(y, 0, 1000000, 1, 1, 999999, 0);
    }

    private static void leftThere() {
        CHECKS.about("Terms 4: what is over is left there");
        FairBoards x = Checks.fair("3a>3b;3b>3a;2a>2b");
        walk(x, 0, 5, 1, 5, 4, 2);
        walk(x, 0, 8, 0, 5, 8);
        walk(x, 0, 11, 1, 5, 10, 2);
        walk(x, 0, 9, 1, 5, 9, 0);
    }

    private static void most() {
        CHECKS.about("Terms 4: of no more than MOST coins");
        FairBoards x = Checks.fair("3a>5b");
        int[][] want = {{1, 0}, {2, 0}, {3, 5}, {5, 5}, {6, 10}, {99, 165}, {100, 165}, {101, 165}, {102, 165},
            {1000000, 165}};
        for (int[] row : want) {
            x.change(0, 1, row[0]);
            walk(x, 0, 100, 1, 1, row[1], 0);
        }
        x.change(0, 1, 999999);
        walk(x, 0, 1000000, 1, 1, 1666665, 0);
        x.change(0, 1, 999998);
        walk(x, 0, 1000000, 1, 1, 1666660, 0);
    }

    private static void betweenHeaps() {
        CHECKS.about("Terms 4: MOST (1 to 1000000): heaps on the way may be greater, boards change no more of them");
        FairBoards x = Checks.fair("1a>99b;1b>99c;1c>99d;1d>99e;1e>99f");
        walk(x, 0, 1000000, 5, 5, 99000000, 0, 1, 2, 3, 4);
        x.change(4, 1, 1);
        walk(x, 0, 1000000, 5, 5, 99, 0, 1, 2, 3, 4);
        FairBoards y = Checks.fair("1a>99b;99b>1a");
        walk(y, 0, 1000000, 0, 5, 1000000);
        walk(y, 0, 1000000, 1, 5, 99000000, 0);
        walk(y, 0, 10101, 1, 5, 999999, 0);
    }

    private static void anyAgain() {
        CHECKS.about("Terms 4: up to n of them, any again");
        FairBoards x = Checks.fair("1a>3b;1b>1a");
        walk(x, 0, 2, 1, 5, 54, 0, 1, 0, 1, 0);
        walk(x, 0, 2, 1, 4, 18, 0, 1, 0);
        walk(x, 0, 2, 1, 2, 6, 0);
        walk(x, 0, 2, 0, 5, 18, 0, 1, 0, 1);
    }

    private static void openBoards() {
        CHECKS.about("Terms 4: over OPEN boards");
        FairBoards x = Checks.fair("1a>9b;1a>2b");
        x.hours(0, 5, 6);
        x.hours(1, 6, 7);
        lost(x, 0, 3, 1, 5);
        x.set(1, 5);
        walk(x, 0, 3, 1, 5, 27, 0);
        x.set(1, 6);
        walk(x, 0, 3, 1, 5, 27, 0);
        x.set(1, 7);
        walk(x, 0, 3, 1, 5, 6, 1);
        x.set(1, 8);
        lost(x, 0, 3, 1, 5);
    }

    private static void oneGivenAtLeast() {
        CHECKS.about("Terms 4: gives its RATE's upper number for each");
        FairBoards x = Checks.fair("2a>5b");
        int[][] want = {{0, 50}, {1, 40}, {3, 20}, {4, 10}, {5, 10}, {98, 10}};
        for (int[] row : want) {
            x.set(0, row[0]);
            walk(x, 0, 21, 1, 1, row[1], 0);
        }
    }

    private static void fewest() {
        CHECKS.about("Terms 4: BEST: the greatest heap, the fewest boards of several");
        FairBoards x = Checks.fair("1a>1b;1b>1c;1a>1c;1c>1a");
        walk(x, 0, 6, 2, 5, 6, 2);
        walk(x, 0, 6, 0, 5, 6);
        x.change(1, 0, 2);
        walk(x, 0, 6, 2, 2, 12, 0, 1);
        walk(x, 0, 6, 2, 1, 6, 2);
        FairBoards y = Checks.fair("1a>2b;9b>1c;1c>1b;1a>1c");
        walk(y, 0, 1, 1, 5, 2, 0);
        walk(y, 0, 0, 1, 5, 0, 0);
        walk(y, 0, 9, 2, 5, 9, 3);
    }

    private static void firstByBoards() {
        CHECKS.about("Terms 4: BEST: then the first by boards one behind another");
        FairBoards x = new FairBoards();
        for (int n = 0; n < 6; n++) {
            x.board(0, 1, 1, 1 + n / 3);
            x.board(1, 1, 0, 1 + n / 3);
        }
        walk(x, 0, 1, 1, 1, 2, 6);
        walk(x, 0, 1, 1, 5, 32, 6, 7, 6, 7, 6);
        // By MOST the worse board is as good behind a great heap, and so it is the first one.
        FairBoards y = Checks.fair("1a>3b;1a>9b;2b>1c;1b>1c");
        y.change(2, 1, 8);
        y.change(3, 1, 4);
        walk(y, 0, 2, 2, 2, 4, 0, 3);
        walk(y, 0, 3, 2, 2, 4, 0, 2);
        walk(y, 0, 1, 2, 2, 4, 1, 2);
        y.change(2, 0, 2);
        walk(y, 0, 1, 2, 2, 8, 1, 2);
        // What the first board leads to would do by a third of a TAKES more, but there are no thirds.
        FairBoards v = Checks.fair("1a>3b;1a>4b;1b>3c;2b>5c");
        v.change(2, 1, 3);
        walk(v, 0, 1, 2, 2, 10, 1, 3);
        // Boards ahead that lead elsewhere are not on the way.
        FairBoards w = Checks.fair("1a>9c;1a>9d;1a>9e;1a>9f;1a>9g;1a>9h;1a>1b;1h>9g");
        walk(w, 0, 1, 1, 5, 1, 6);
        walk(w, 0, 1, 7, 5, 9, 5);
        walk(w, 0, 1, 6, 5, 81, 5, 7);
        // The last of twelve is the only one.
        FairBoards z = new FairBoards();
        for (int n = 0; n < 11; n++) {
            z.board(0, 2, 1, 1);
        }
        z.board(0, 1, 1, 1);
        walk(z, 0, 1, 1, 1, 1, 11);
        walk(z, 0, 0, 1, 1, 0, 0);
    }

    // ---- promise 27

    private static void walkersUnknown() {
        CHECKS.about("27: walkers: -1, GIVES of a board. UNKNOWN");
        FairBoards x = new FairBoards();
        due("walkers(-1) without boards", x.walkers(-1), 0);
        due("walkers(0) without boards", x.walkers(0), UNKNOWN);
        x.board(0, 1, 1, 5);
        for (int what : new int[] {MIN, -3, -2, 1, 2, 11, 12, MAX}) {
            due("walkers(" + what + ")", x.walkers(what), UNKNOWN);
        }
        walkers(x, 0, 5);
        FairBoards y = new FairBoards();
        for (int n = 0; n < 12; n++) {
            y.board(0, 1, 1, 1 + n);
        }
        due("walkers(11)", y.walkers(11), 12);
        due("walkers(12)", y.walkers(12), UNKNOWN);
    }

    private static void walkersNone() {
        CHECKS.about("Terms 4: WALKERS: till none GAINS; none does at first");
        walkers(Checks.fair("2a>3b;3b>2a"), 0, 3, 2);
        walkers(Checks.fair("1a>99b"), 0, 99);
        FairBoards x = Checks.fair("1a>9b;1b>9a");
        x.set(0, 8);
        walkers(x, 0, 9, 9);
    }

    private static void walkersOneAtLeast() {
        CHECKS.about("Terms 4: each board that is used gives DROP less (1 at least)");
        FairBoards x = Checks.fair("1a>4b;1b>1a");
        walkers(x, 3, 1, 1);
        x.set(2, 2);
        walkers(x, 2, 1, 1);
        x.set(2, 3);
        walkers(x, 1, 1, 1);
        x.set(2, 4);
        walkers(x, 1, 1, 1);
        x.set(2, 98);
        walkers(x, 1, 1, 1);
    }

    private static void walkersDrop() {
        CHECKS.about("Terms 4: DROP (1 to 98; 1 at first)");
        FairBoards x = Checks.fair("1a>99b;1b>99a");
        walkers(x, 98, 1, 1);
        x.set(2, 97);
        walkers(x, 2, 1, 1);
        x.set(2, 98);
        walkers(x, 1, 1, 1);
        x.set(2, 1);
        walkers(x, 98, 1, 1);
    }

    private static void walkersOfGives() {
        CHECKS.about("Terms 4: less from then on (of GIVES): the FEE is taken off besides");
        FairBoards x = Checks.fair("1a>9b;1b>3a");
        x.set(0, 3);
        walkers(x, 5, 4, 1);
        x.set(2, 5);
        walkers(x, 1, 4, 1);
        x.set(0, 7);
        x.set(2, 1);
        walkers(x, 1, 8, 2);
        x.set(0, 8);
        walkers(x, 0, 9, 3);
    }

    private static void walkersOthersStay() {
        CHECKS.about("27: walkers: GIVES of a board then; one that is not used, one that is not OPEN");
        FairBoards x = Checks.fair("1a>3b;1b>1a;1c>9d;1b>9a");
        x.hours(3, 1, 1);
        walkers(x, 2, 1, 1, 9, 9);
        x.set(1, 1);
        walkers(x, 8, 1, 1, 9, 1);
    }

    private static void walkersFirstSuch() {
        CHECKS.about("Terms 4: goes THE MOST once: of several the first such, anew each time");
        FairBoards x = Checks.fair("1a>2b;1a>2b;1b>1a");
        walkers(x, 2, 1, 1, 1);
        FairBoards y = Checks.fair("1a>3b;1a>3b;2b>3a");
        walkers(y, 2, 2, 2, 1);
        y.set(2, 2);
        walkers(y, 2, 1, 1, 1);
        FairBoards z = Checks.fair("3a>4b;3b>4a;3a>4b");
        walkers(z, 2, 3, 2, 3);
        z.change(2, 0, 5);
        walkers(z, 2, 3, 2, 4);
    }

    /* As many as can go: each walker lowers boards of one round alone. */
    private static void walkersMany() {
        CHECKS.about("27: walkers: how many went: the most there can be");
        FairBoards x = new FairBoards();
        for (int n = 0; n < 11; n++) {
            x.board(0, 1, 1, 99);
        }
        x.board(1, 1, 0, 1);
        due("walkers(-1)", x.walkers(-1), 11 * 98);
        due("walkers(0)", x.walkers(0), 1);
        due("walkers(10)", x.walkers(10), 1);
        due("walkers(11)", x.walkers(11), 1);
        x.change(11, 0, 2);
        due("walkers(-1) with one more", x.walkers(-1), 11 * 98);
    }

    private static void walkersChangeNothing() {
        CHECKS.about("27: walkers: Boards stay as they are");
        FairBoards x = Checks.fair("1a>4b;1b>1a");
        walkers(x, 3, 1, 1);
        due("of(0, 3)", x.of(0, 3), 4);
        due("of(1, 3)", x.of(1, 3), 1);
        due("rounds(1)", x.rounds(1), 1);
        due("product(0, 0)", x.product(0, 0), 4);
        due("best(0)", x.best(0), 0);
        due("walk", x.walk(0, 1, 1, 1, -1), 4);
        walkers(x, 3, 1, 1);
        x.change(0, 0, 5);
        walkers(x, 4, 1, 1);
        x.board(2, 1, 3, 2);
        Checks.say(x, "1d>2c");
        x.read();
        walkers(x, 5, 1, 1, 1, 1);
    }
}
