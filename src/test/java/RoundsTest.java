/** Promises 11 to 19: rounds. */
final class RoundsTest {
    private static final Checks CHECKS = new Checks("RoundsTest");
    private static final int NONE = FairBoards.NONE;
    private static final long LOST = FairBoards.LOST;

    public static void main(String[] args) {
        none();
        order();
        longerAhead();
        onlyOpenOnes();
        equalProducts();
        greatNumbers();
        parallels();
        fees();
        moves();
        cuts();
        firstCalls();
        refusals();
        CHECKS.end();
    }

    private static void due(String call, long got, long want) {
        CHECKS.due(call, got, want);
    }

    private static void round(FairBoards x, int n, int... boards) {
        due("round(" + n + ", -1)", x.round(n, -1), boards.length);
        for (int i = 0; i < boards.length; i++) {
            due("round(" + n + ", " + i + ")", x.round(n, i), boards[i]);
        }
        for (int i = boards.length; i < 14; i++) {
            due("round(" + n + ", " + i + ")", x.round(n, i), NONE);
        }
    }

    private static void product(FairBoards x, int n, long upper, long lower) {
        due("product(" + n + ", 0)", x.product(n, 0), upper);
        due("product(" + n + ", 1)", x.product(n, 1), lower);
    }

    /* Rounds that give back just what was taken do not gain. */
    private static void none() {
        FairBoards x = Checks.fair("2a>3b;3b>2a;9c>8d");
        due("rounds(0)", x.rounds(0), 1);
        due("rounds(1)", x.rounds(1), 0);
        due("round(0, -1)", x.round(0, -1), -1);
        due("best(0)", x.best(0), NONE);
        due("best(1)", x.best(1), NONE);
        due("blamed()", x.blamed(), 0);
        due("cut()", x.cut(), 0);
        due("edge()", x.edge(), 0);
        for (int board = 0; board < 3; board++) {
            due("through(" + board + ")", x.through(board), 0);
            due("move(" + board + ")", x.move(board), 0);
        }
    }

    private static void order() {
        FairBoards x = Checks.fair("1b>1a;1a>2b;1b>1a;1b>1c;1c>1a;1c>2b");
        due("rounds(0)", x.rounds(0), 4);
        due("rounds(1)", x.rounds(1), 4);
        round(x, 0, 1, 0);
        round(x, 1, 1, 2);
        round(x, 2, 1, 3, 4);
        round(x, 3, 3, 5);
        for (int n = 0; n < 4; n++) {
            product(x, n, 2, 1);
        }
        due("best(0)", x.best(0), 0);
        due("best(1)", x.best(1), 0);
        int[] through = {1, 3, 1, 2, 1, 1};
        for (int board = 0; board < through.length; board++) {
            due("through(" + board + ")", x.through(board), through[board]);
            due("move(" + board + ")", x.move(board), NONE);
        }
        due("blamed()", x.blamed(), 0);
        due("cut()", x.cut(), 2 + 8);
        due("edge()", x.edge(), 1);
        x.change(1, 0, 1);
        due("rounds(0) then", x.rounds(0), 4);
        due("rounds(1) then", x.rounds(1), 1);
        round(x, 0, 3, 5);
        due("blamed() then", x.blamed(), 8 + 32);
        due("cut() then", x.cut(), 8);
        due("move(5) then", x.move(5), 1);
        due("move(3) then", x.move(3), NONE);
    }

    private static void longerAhead() {
        FairBoards x = Checks.fair("1a>1b;1b>1c;1b>3a;1c>3a");
        due("rounds(1)", x.rounds(1), 2);
        round(x, 0, 0, 1, 3);
        round(x, 1, 0, 2);
        due("best(0)", x.best(0), 0);
        due("best(1)", x.best(1), 1);
        due("blamed()", x.blamed(), 1);
        due("cut()", x.cut(), 1);
        x.change(2, 0, 4);
        due("best(0) then", x.best(0), 1);
    }

    private static void onlyOpenOnes() {
        FairBoards x = Checks.fair("1a>2b;1b>2a;1b>3a");
        x.hours(1, 0, 9);
        x.hours(2, 10, 99);
        due("rounds(1) at 0", x.rounds(1), 1);
        round(x, 0, 0, 1);
        due("through(2) at 0", x.through(2), 0);
        due("move(2) at 0", x.move(2), -3);
        due("move(1) at 0", x.move(1), NONE);
        due("edge() at 0", x.edge(), 1);
        x.set(1, 10);
        due("rounds(1) at 10", x.rounds(1), 1);
        round(x, 0, 0, 2);
        product(x, 0, 6, 1);
        due("edge() at 10", x.edge(), 2);
        due("cut() at 10", x.cut(), 1);
        due("blamed() at 10", x.blamed(), 5);
        x.hours(0, 0, 9);
        due("cut() without the first", x.cut(), 0);
        due("rounds(0) without the first", x.rounds(0), 0);
    }

    private static void equalProducts() {
        FairBoards x = Checks.fair("5a>9b;1a>2b;3a>6b;1b>1a");
        due("best(0)", x.best(0), 1);
        due("best(1)", x.best(1), 0);
        product(x, 0, 9, 5);
        product(x, 2, 2, 1);
        FairBoards y = Checks.fair("49a>99b;49a>98b;50a>99b;1b>1a");
        due("best(0)", y.best(0), 0);
        product(y, 0, 99, 49);
    }

    /* Eight coins: products whose cross products are far beyond a long. */
    private static void greatNumbers() {
        FairBoards x = Checks.fair("98a>99b;98b>99c;98c>99d;98d>99e;98e>99f;98f>99g;98g>99h;98h>99a");
        due("rounds(0)", x.rounds(0), 1);
        round(x, 0, 0, 1, 2, 3, 4, 5, 6, 7);
        product(x, 0, 9227446944279201L, 8507630225817856L);
        due("edge()", x.edge(), 1);
        due("move(3)", x.move(3), 8);
        due("cut()", x.cut(), 1);
        due("blamed()", x.blamed(), 255);
        x.board(0, 97, 1, 98);
        x.board(7, 97, 0, 99);
        due("rounds(1)", x.rounds(1), 4);
        due("best(0)", x.best(0), 3);
        round(x, 3, 8, 1, 2, 3, 4, 5, 6, 9);
        due("best(1)", x.best(1), 0);
        due("cut()", x.cut(), 2);
        FairBoards y = Checks.fair("1a>99b;1b>99c;1c>99d;1d>99e;1e>99f;1f>99g;1g>99h;1h>99a");
        product(y, 0, 9227446944279201L, 1);
        due("move of it", y.move(0), NONE);
        due("edge of it", y.edge(), 98);
    }

    private static void parallels() {
        FairBoards x = new FairBoards();
        for (int n = 0; n < 12; n++) {
            x.board(n % 4, 1, (n + 1) % 4, 2);
        }
        due("rounds(1)", x.rounds(1), 81);
        round(x, 0, 0, 1, 2, 3);
        round(x, 1, 0, 1, 2, 7);
        round(x, 80, 8, 9, 10, 11);
        due("through(5)", x.through(5), 27);
        due("cut()", x.cut(), 1 + 16 + 256);
        FairBoards y = new FairBoards();
        for (int n = 0; n < 12; n++) {
            y.board(n % 2, 1, 1 - n % 2, 2);
        }
        due("rounds(1) of two coins", y.rounds(1), 36);
        due("cut() of two coins", y.cut(), 1 + 4 + 16 + 64 + 256 + 1024);
    }

    private static void fees() {
        FairBoards x = Checks.fair("1a>5b;1b>1a");
        due("edge()", x.edge(), 4);
        product(x, 0, 5, 1);
        x.set(0, 2);
        product(x, 0, 3, 1);
        due("edge() by fee 2", x.edge(), 4);
        due("move(0) by fee 2", x.move(0), 2);
        due("move(1) by fee 2", x.move(1), NONE);
        x.set(0, 10);
        due("rounds(1) by fee 10", x.rounds(1), 0);
        due("edge() by fee 10", x.edge(), 4);
        due("move(0) by fee 10", x.move(0), 0);
    }

    private static void moves() {
        FairBoards x = Checks.fair("2a>9b;3b>2a;7b>3a");
        due("move(0)", x.move(0), 6);
        due("of stays", x.of(0, 3), 9);
        due("rounds(1) stays", x.rounds(1), 2);
        due("move(1)", x.move(1), NONE);
        x.change(2, 0, 1);
        due("move(0) then", x.move(0), 6);
        due("move(1) then", x.move(1), NONE);
        x.change(0, 0, 4);
        due("move(0) at last", x.move(0), 1);
        due("move(1) at last", x.move(1), 1);
        due("move(2) at last", x.move(2), NONE);
    }

    /* Two rounds apart, and the lesser bits though they come with greater numbers of boards. */
    private static void cuts() {
        FairBoards x = Checks.fair("1a>2b;1b>2a;1c>2d;1d>2c;1a>2c;1c>2a");
        due("rounds(1)", x.rounds(1), 3);
        due("cut()", x.cut(), 1 + 4 + 16);
        FairBoards y = Checks.fair("1a>1b;1b>2c;1c>1a;1b>2d;1d>1a;1c>1b");
        due("cut() of three", y.cut(), 1 + 2);
        due("blamed() of three", y.blamed(), 0);
        y.change(5, 0, 1);
        y.set(1, 5);
        y.hours(5, 0, 4);
        due("cut() then", y.cut(), 1);
        due("blamed() then", y.blamed(), 1);
    }

    /* Whichever call comes first behind a change sees it. */
    private static void firstCalls() {
        String fair = "1a>2b;1b>1a;2a>9b";
        due("rounds", Checks.fair(fair).rounds(1), 2);
        due("round", Checks.fair(fair).round(1, 0), 2);
        due("product", Checks.fair(fair).product(1, 0), 9);
        due("best", Checks.fair(fair).best(0), 1);
        due("through", Checks.fair(fair).through(1), 2);
        due("blamed", Checks.fair(fair).blamed(), 2);
        due("cut", Checks.fair(fair).cut(), 2);
        due("move", Checks.fair(fair).move(2), NONE);
        due("edge", Checks.fair(fair).edge(), 7);
        FairBoards x = Checks.fair(fair);
        due("edge()", x.edge(), 7);
        x.change(2, 0, 2);
        due("through(2) then", x.through(2), 0);
        x.change(2, 0, 3);
        due("blamed() then", x.blamed(), 2);
        x.set(0, 1);
        due("best(0) by fee 1", x.best(0), NONE);
        x.set(0, 0);
        due("cut() by fee 0", x.cut(), 2);
        x.hours(1, 1, 1);
        due("cut() without board 1", x.cut(), 0);
        x.set(1, 1);
        due("through(0) at 1", x.through(0), 1);
        x.board(1, 1, 0, 1);
        due("blamed() of two ways back", x.blamed(), 0);
        Checks.say(x, "1b>1a");
        x.read();
        due("through(0) of three ways back", x.through(0), 3);
    }

    private static void refusals() {
        FairBoards x = Checks.fair("1a>2b;1b>1a");
        due("round(0, 16)", x.round(0, 16), NONE);
        due("round(0, -16)", x.round(0, -16), NONE);
        due("round(0, -1 and 2 to the 31st)", x.round(0, Integer.MAX_VALUE), NONE);
        due("rounds(2)", x.rounds(2), -2);
        due("rounds(-1)", x.rounds(-1), -2);
        due("best(2)", x.best(2), -2);
        due("best(-1)", x.best(-1), -2);
        due("round(1, 0)", x.round(1, 0), -1);
        due("round(-1, 0)", x.round(-1, 0), -1);
        due("round(0, -2)", x.round(0, -2), NONE);
        due("product(1, 0)", x.product(1, 0), LOST - 1);
        due("product(-1, 5)", x.product(-1, 5), LOST - 1);
        due("product(0, 2)", x.product(0, 2), LOST - 2);
        due("product(0, -1)", x.product(0, -1), LOST - 2);
        due("through(2)", x.through(2), -1);
        due("through(-1)", x.through(-1), -1);
        due("move(2)", x.move(2), -1);
        due("move(-1)", x.move(-1), -1);
    }
}
