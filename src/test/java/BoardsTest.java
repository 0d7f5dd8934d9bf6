/** Promises 1 to 6 and 28: a new object, boards and what is set. */
final class BoardsTest {
    private static final Checks CHECKS = new Checks("BoardsTest");

    public static void main(String[] args) {
        fresh();
        boards();
        refusedBoards();
        of();
        change();
        hours();
        set();
        told();
        CHECKS.end();
    }

    private static void due(String call, long got, long want) {
        CHECKS.due(call, got, want);
    }

    private static void fresh() {
        FairBoards x = new FairBoards();
        int[] want = {0, 0, 0, 0, 0, 1};
        for (int what = 0; what < want.length; what++) {
            due("new: told(" + what + ")", x.told(what), want[what]);
        }
        for (int coin = 0; coin < 8; coin++) {
            due("new: worth(" + coin + ", 1)", x.worth(coin, 1), 1);
        }
        due("new: fault()", x.fault(), 0);
        due("new: of(0, 0)", x.of(0, 0), -1);
    }

    private static void boards() {
        FairBoards x = new FairBoards();
        for (int n = 0; n < 12; n++) {
            due("board " + n, x.board(n % 8, 1 + n, (n + 1) % 8, 99 - n), n);
            due("told(0)", x.told(0), n + 1);
        }
        due("a thirteenth", x.board(0, 1, 1, 1), -4);
        due("a thirteenth of one coin", x.board(0, 1, 0, 1), -1);
        due("a thirteenth of too many", x.board(0, 1, 1, 100), -2);
        due("told(0) then", x.told(0), 12);
        for (int n = 0; n < 12; n++) {
            int[] want = {n % 8, 1 + n, (n + 1) % 8, 99 - n, 0, 99, 1000000, 1, 99 - n};
            for (int what = 0; what < want.length; what++) {
                due("of(" + n + ", " + what + ")", x.of(n, what), want[what]);
            }
        }
        FairBoards y = new FairBoards();
        due("least and greatest", y.board(7, 1, 0, 99), 0);
        due("greatest and least", y.board(0, 99, 7, 1), 1);
        due("the same once more", y.board(0, 99, 7, 1), 2);
    }

    private static void refusedBoards() {
        FairBoards x = new FairBoards();
        due("from -1", x.board(-1, 1, 0, 1), -1);
        due("from 8", x.board(8, 1, 0, 1), -1);
        due("to -1", x.board(0, 1, -1, 1), -1);
        due("to 8", x.board(0, 1, 8, 1), -1);
        due("one coin", x.board(3, 1, 3, 1), -1);
        due("takes 0", x.board(0, 0, 1, 1), -2);
        due("takes 100", x.board(0, 100, 1, 1), -2);
        due("gives 0", x.board(0, 1, 1, 0), -2);
        due("gives 100", x.board(0, 1, 1, 100), -2);
        due("a coin and an amount", x.board(8, 100, 0, 1), -1);
        due("none came", x.told(0), 0);
    }

    private static void of() {
        FairBoards x = Checks.fair("2a>3b;5b>40c");
        due("of(2, 0)", x.of(2, 0), -1);
        due("of(-1, 0)", x.of(-1, 0), -1);
        due("of(2, 9)", x.of(2, 9), -1);
        due("of(0, 9)", x.of(0, 9), -2);
        due("of(0, -1)", x.of(0, -1), -2);
        x.set(0, 2);
        due("rate, fee 2", x.of(0, 8), 1);
        due("rate of 40, fee 2", x.of(1, 8), 38);
        due("GIVES stay", x.of(1, 3), 40);
        x.set(0, 98);
        due("rate, fee 98", x.of(1, 8), 1);
    }

    private static void change() {
        FairBoards x = Checks.fair("2a>3b");
        due("gives 99", x.change(0, 0, 99), 3);
        due("gives 1", x.change(0, 0, 1), 99);
        due("gives 0", x.change(0, 0, 0), -2);
        due("gives 100", x.change(0, 0, 100), -2);
        due("of gives", x.of(0, 3), 1);
        due("most 1", x.change(0, 1, 1), 1000000);
        due("most 1000000", x.change(0, 1, 1000000), 1);
        due("most 100", x.change(0, 1, 100), 1000000);
        due("most 0", x.change(0, 1, 0), -2);
        due("most 1000001", x.change(0, 1, 1000001), -2);
        due("of most", x.of(0, 6), 100);
        due("what 2", x.change(0, 2, 1), -2);
        due("what -1", x.change(0, -1, 1), -2);
        due("no board", x.change(1, 0, 1), -1);
        due("no board, no what", x.change(-1, 5, 0), -1);
    }

    private static void hours() {
        FairBoards x = Checks.fair("2a>3b;2b>3c");
        due("hours(0, 5, 7)", x.hours(0, 5, 7), 1);
        due("from", x.of(0, 4), 5);
        due("till", x.of(0, 5), 7);
        int[] open = {2, 3, 3, 3, 2};
        for (int i = 0; i < open.length; i++) {
            x.set(1, 4 + i);
            due("open at " + (4 + i), x.told(2), open[i]);
            due("of open at " + (4 + i), x.of(0, 7), open[i] & 1);
        }
        due("one hour", x.hours(0, 8, 8), 1);
        due("open", x.of(0, 7), 1);
        due("all hours", x.hours(0, 0, 99), 1);
        due("from above till", x.hours(0, 8, 7), -2);
        due("from -1", x.hours(0, -1, 7), -2);
        due("till 100", x.hours(0, 0, 100), -2);
        due("from 100", x.hours(0, 100, 100), -2);
        due("no board", x.hours(2, 8, 7), -1);
        due("from stays", x.of(0, 4), 0);
        due("till stays", x.of(0, 5), 99);
    }

    private static void set() {
        FairBoards x = new FairBoards();
        int[] least = {0, 0, 1};
        int[] greatest = {98, 99, 98};
        for (int which = 0; which < 3; which++) {
            due("greatest of " + which, x.set(which, greatest[which]), least[which]);
            due("above it", x.set(which, greatest[which] + 1), -2);
            due("below the least", x.set(which, least[which] - 1), -2);
            due("told", x.told(3 + which), greatest[which]);
            due("least of " + which, x.set(which, least[which]), greatest[which]);
            due("told then", x.told(3 + which), least[which]);
        }
        due("which -1", x.set(-1, 1), -2);
        due("which 3", x.set(3, 1), -2);
    }

    private static void told() {
        FairBoards x = Checks.fair("2a>3b;2b>3c;1c>1a");
        Checks.say(x, "12345");
        x.set(0, 7);
        x.set(1, 50);
        x.set(2, 9);
        x.hours(1, 0, 49);
        int[] want = {3, 5, 5, 7, 50, 9};
        for (int what = 0; what < want.length; what++) {
            due("told(" + what + ")", x.told(what), want[what]);
        }
        due("told(-1)", x.told(-1), -2);
        due("told(6)", x.told(6), -2);
    }
}
