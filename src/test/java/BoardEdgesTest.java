/** The boundary cases that the document names in promises 1 to 6 and 28, sentence by sentence. */
final class BoardEdgesTest {
    private static final Checks CHECKS = new Checks("BoardEdgesTest");
    private static final int MIN = Integer.MIN_VALUE;
    private static final int MAX = Integer.MAX_VALUE;
    private static final int UNKNOWN = -1;
    private static final int OUTSIDE = -2;
    private static final int FULL = -4;

    public static void main(String[] args) {
        newObject();
        newObjectsShareNothing();
        coins();
        bothAreOne();
        takes();
        gives();
        twelveBoards();
        ofBoards();
        ofWhats();
        hoursAtFirst();
        mostAtFirst();
        rateIsOneAtLeast();
        changeGives();
        changeMost();
        changeWhats();
        hoursFromTill();
        hoursOutside();
        bothHoursCounted();
        fee();
        now();
        drop();
        whichOutside();
        toldWhats();
        toldCounts();
        toldOpenOnes();
        CHECKS.end();
    }

    private static void due(String call, long got, long want) {
        CHECKS.due(call, got, want);
    }

    private static FairBoards twelve() {
        FairBoards x = new FairBoards();
        for (int n = 0; n < 12; n++) {
            x.board(n % 8, n + 1, (n + 3) % 8, 99 - n);
        }
        return x;
    }

    // ---- promise 1

    private static void newObject() {
        CHECKS.about("1: No boards; FEE and NOW 0, DROP 1");
        isFresh();
    }

    private static void isFresh() {
        FairBoards x = new FairBoards();
        due("told(0)", x.told(0), 0);
        due("told(1)", x.told(1), 0);
        due("told(2)", x.told(2), 0);
        due("told(3)", x.told(3), 0);
        due("told(4)", x.told(4), 0);
        due("told(5)", x.told(5), 1);
        due("of(0, 0)", x.of(0, 0), UNKNOWN);
        due("set(0, 0)", x.set(0, 0), 0);
        due("set(1, 0)", x.set(1, 0), 0);
        due("set(2, 1)", x.set(2, 1), 1);
    }

    private static void newObjectsShareNothing() {
        CHECKS.about("1: No boards, though another object has some");
        FairBoards x = twelve();
        x.set(0, 5);
        x.set(1, 6);
        x.set(2, 7);
        x.say('1');
        x.worth(3, 9);
        isFresh();
        FairBoards y = new FairBoards();
        due("worth(3, 1)", y.worth(3, 1), 1);
        due("y.board", y.board(0, 1, 1, 1), 0);
        due("x.told(0)", x.told(0), 12);
        due("x.of(0, 3)", x.of(0, 3), 99);
    }

    // ---- promise 2

    private static void coins() {
        CHECKS.about("2: COINS 0 to 7; UNKNOWN: coins");
        FairBoards x = new FairBoards();
        for (int coin : new int[] {MIN, -8, -1, 8, 9, 97, MAX}) {
            due("from " + coin, x.board(coin, 1, 0, 1), UNKNOWN);
            due("to " + coin, x.board(0, 1, coin, 1), UNKNOWN);
            due("both " + coin, x.board(coin, 1, coin, 1), UNKNOWN);
        }
        due("none came", x.told(0), 0);
        for (int coin = 0; coin < 7; coin++) {
            due("from " + coin + " to 7", new FairBoards().board(coin, 1, 7, 1), 0);
            due("from 7 to " + coin, new FairBoards().board(7, 1, coin, 1), 0);
        }
    }

    private static void bothAreOne() {
        CHECKS.about("2: UNKNOWN: also both are one");
        FairBoards x = new FairBoards();
        for (int coin = 0; coin < 8; coin++) {
            due("board(" + coin + ", 1, " + coin + ", 1)", x.board(coin, 1, coin, 1), UNKNOWN);
        }
        due("one coin and TAKES 0", x.board(0, 0, 0, 1), UNKNOWN);
        due("one coin and GIVES 100", x.board(7, 1, 7, 100), UNKNOWN);
        due("none came", x.told(0), 0);
        due("one coin with twelve boards", twelve().board(2, 1, 2, 1), UNKNOWN);
    }

    private static void takes() {
        CHECKS.about("2: TAKES (1 to 99)");
        FairBoards x = new FairBoards();
        for (int takes : new int[] {MIN, -99, -1, 0, 100, 101, 257, 65537, MAX}) {
            due("TAKES " + takes, x.board(0, takes, 1, 1), OUTSIDE);
        }
        due("TAKES 1", x.board(0, 1, 1, 1), 0);
        due("TAKES 99", x.board(0, 99, 1, 1), 1);
        due("of(0, 1)", x.of(0, 1), 1);
        due("of(1, 1)", x.of(1, 1), 99);
    }

    private static void gives() {
        CHECKS.about("2: GIVES (1 to 99)");
        FairBoards x = new FairBoards();
        for (int gives : new int[] {MIN, -99, -1, 0, 100, 101, 257, 65537, MAX}) {
            due("GIVES " + gives, x.board(0, 1, 1, gives), OUTSIDE);
        }
        due("GIVES 1", x.board(0, 1, 1, 1), 0);
        due("GIVES 99", x.board(0, 1, 1, 99), 1);
        due("of(0, 3)", x.of(0, 3), 1);
        due("of(1, 3)", x.of(1, 3), 99);
    }

    private static void twelveBoards() {
        CHECKS.about("2: BOARDS, 12 at most, numbered from 0 on; FULL");
        FairBoards x = new FairBoards();
        for (int n = 0; n < 12; n++) {
            due("refused ahead of board " + n, x.board(0, 100, 1, 1), OUTSIDE);
            due("board " + n, x.board(0, 1, 1, n + 1), n);
        }
        due("a thirteenth", x.board(0, 1, 1, 50), FULL);
        due("a thirteenth once more", x.board(6, 99, 7, 99), FULL);
        due("a thirteenth of no coin", x.board(8, 1, 1, 1), UNKNOWN);
        due("a thirteenth that takes 0", x.board(0, 0, 1, 1), OUTSIDE);
        due("a thirteenth that gives 100", x.board(0, 1, 1, 100), OUTSIDE);
        due("told(0)", x.told(0), 12);
        due("the last", x.of(11, 3), 12);
        due("none behind it", x.of(12, 3), UNKNOWN);
    }

    // ---- promise 3

    private static void ofBoards() {
        CHECKS.about("3: of: UNKNOWN");
        FairBoards x = new FairBoards();
        due("of(0, 0) without boards", x.of(0, 0), UNKNOWN);
        x.board(0, 1, 1, 1);
        for (int board : new int[] {MIN, -1, 1, 2, 11, 12, 32, MAX}) {
            due("of(" + board + ", 0)", x.of(board, 0), UNKNOWN);
            due("of(" + board + ", 9)", x.of(board, 9), UNKNOWN);
        }
        FairBoards y = twelve();
        due("of(11, 1)", y.of(11, 1), 12);
        due("of(12, 1)", y.of(12, 1), UNKNOWN);
        due("of(-1, 1)", y.of(-1, 1), UNKNOWN);
    }

    private static void ofWhats() {
        CHECKS.about("3: of: 0 .. 8; OUTSIDE");
        FairBoards x = new FairBoards();
        x.board(7, 12, 2, 34);
        x.hours(0, 1, 98);
        x.change(0, 1, 55);
        x.set(0, 4);
        int[] want = {7, 12, 2, 34, 1, 98, 55, 0, 30};
        for (int what = 0; what < want.length; what++) {
            due("of(0, " + what + ")", x.of(0, what), want[what]);
        }
        for (int what : new int[] {MIN, -1, 9, 10, MAX}) {
            due("of(0, " + what + ")", x.of(0, what), OUTSIDE);
        }
    }

    private static void hoursAtFirst() {
        CHECKS.about("Terms 1: from an hour till another one (0 and 99 at first)");
        FairBoards x = new FairBoards();
        x.board(0, 1, 1, 1);
        due("of(0, 4)", x.of(0, 4), 0);
        due("of(0, 5)", x.of(0, 5), 99);
        for (int now : new int[] {0, 1, 50, 98, 99}) {
            x.set(1, now);
            due("open at " + now, x.of(0, 7), 1);
        }
    }

    private static void mostAtFirst() {
        CHECKS.about("Terms 1: MOST coins of a heap (1000000 at first)");
        FairBoards x = new FairBoards();
        x.board(0, 1, 1, 1);
        due("of(0, 6)", x.of(0, 6), 1000000);
        due("the whole heap goes", x.walk(0, 1000000, 1, 1, -1), 1000000);
    }

    private static void rateIsOneAtLeast() {
        CHECKS.about("Terms 1: so many less than GIVES, 1 at least: that is its RATE");
        FairBoards x = new FairBoards();
        x.board(0, 1, 1, 1);
        x.board(0, 1, 1, 2);
        x.board(0, 1, 1, 98);
        x.board(0, 1, 1, 99);
        int[][] want = {{0, 1, 2, 98, 99}, {1, 1, 1, 97, 98}, {2, 1, 1, 96, 97}, {96, 1, 1, 2, 3}, {97, 1, 1, 1, 2},
            {98, 1, 1, 1, 1}};
        for (int[] row : want) {
            x.set(0, row[0]);
            for (int board = 0; board < 4; board++) {
                due("of(" + board + ", 8) by FEE " + row[0], x.of(board, 8), row[1 + board]);
            }
        }
        due("GIVES stay", x.of(3, 3), 99);
    }

    // ---- promise 4

    private static void changeGives() {
        CHECKS.about("4: change: GIVES, which it was; UNKNOWN; OUTSIDE");
        FairBoards x = Checks.fair("2a>3b");
        for (int gives : new int[] {MIN, -1, 0, 100, 1000000, MAX}) {
            due("GIVES " + gives, x.change(0, 0, gives), OUTSIDE);
            due("GIVES stay", x.of(0, 3), 3);
        }
        due("GIVES 1", x.change(0, 0, 1), 3);
        due("GIVES 99", x.change(0, 0, 99), 1);
        due("GIVES 99 again", x.change(0, 0, 99), 99);
        due("of(0, 3)", x.of(0, 3), 99);
        due("TAKES stay", x.of(0, 1), 2);
        for (int board : new int[] {MIN, -1, 1, 12, MAX}) {
            due("board " + board, x.change(board, 0, 1), UNKNOWN);
            due("board " + board + ", GIVES 0", x.change(board, 0, 0), UNKNOWN);
        }
    }

    private static void changeMost() {
        CHECKS.about("4: change: MOST (1 to 1000000), which it was; UNKNOWN; OUTSIDE");
        FairBoards x = Checks.fair("2a>3b;2a>3b");
        for (int most : new int[] {MIN, -1, 0, 1000001, MAX}) {
            due("MOST " + most, x.change(1, 1, most), OUTSIDE);
            due("MOST stays", x.of(1, 6), 1000000);
        }
        due("MOST 1", x.change(1, 1, 1), 1000000);
        due("MOST 1000000", x.change(1, 1, 1000000), 1);
        due("MOST 999999", x.change(1, 1, 999999), 1000000);
        due("of(1, 6)", x.of(1, 6), 999999);
        due("the other's stays", x.of(0, 6), 1000000);
        due("board 2", x.change(2, 1, 1), UNKNOWN);
        due("board 2, MOST 0", x.change(2, 1, 0), UNKNOWN);
    }

    private static void changeWhats() {
        CHECKS.about("4: change: what = 0, 1; OUTSIDE");
        FairBoards x = Checks.fair("2a>3b");
        for (int what : new int[] {MIN, -1, 2, 3, MAX}) {
            due("what " + what, x.change(0, what, 1), OUTSIDE);
            due("what " + what + " of no board", x.change(1, what, 1), UNKNOWN);
        }
        due("GIVES stay", x.of(0, 3), 3);
        due("MOST stays", x.of(0, 6), 1000000);
        x.hours(0, 9, 9);
        due("a board that is not OPEN", x.change(0, 0, 4), 3);
    }

    // ---- promise 5

    private static void hoursFromTill() {
        CHECKS.about("5: hours: OUTSIDE: from not above till");
        FairBoards x = Checks.fair("2a>3b");
        due("hours(0, 4, 4)", x.hours(0, 4, 4), 1);
        for (int[] hours : new int[][] {{5, 4}, {1, 0}, {99, 98}, {99, 0}}) {
            due("hours(0, " + hours[0] + ", " + hours[1] + ")", x.hours(0, hours[0], hours[1]), OUTSIDE);
            due("from stays", x.of(0, 4), 4);
            due("till stays", x.of(0, 5), 4);
        }
        due("of no board", x.hours(1, 5, 4), UNKNOWN);
        due("of board -1", x.hours(-1, 0, 99), UNKNOWN);
    }

    private static void hoursOutside() {
        CHECKS.about("5: hours (0 to 99); UNKNOWN; OUTSIDE");
        FairBoards x = Checks.fair("2a>3b");
        for (int[] hours : new int[][] {{-1, 5}, {MIN, 5}, {5, 100}, {5, MAX}, {100, 100}, {-1, -1}, {-1, 100},
                {MIN, MIN}, {MAX, MAX}}) {
            due("hours(0, " + hours[0] + ", " + hours[1] + ")", x.hours(0, hours[0], hours[1]), OUTSIDE);
            due("of no board", x.hours(1, hours[0], hours[1]), UNKNOWN);
            due("from stays", x.of(0, 4), 0);
            due("till stays", x.of(0, 5), 99);
        }
        due("hours(0, 0, 0)", x.hours(0, 0, 0), 1);
        due("till 0", x.of(0, 5), 0);
        due("hours(0, 99, 99)", x.hours(0, 99, 99), 1);
        due("from 99", x.of(0, 4), 99);
        due("hours(0, 0, 99)", x.hours(0, 0, 99), 1);
        due("from 0", x.of(0, 4), 0);
        due("till 99", x.of(0, 5), 99);
    }

    private static void bothHoursCounted() {
        CHECKS.about("Terms 1: from an hour till another one, both counted; there NOW are OPEN");
        FairBoards x = Checks.fair("1a>1b;1a>1b;1a>1b;1a>1b");
        x.hours(0, 0, 0);
        x.hours(1, 1, 98);
        x.hours(2, 99, 99);
        x.hours(3, 50, 51);
        int[][] want = {{0, 1}, {1, 2}, {2, 2}, {49, 2}, {50, 10}, {51, 10}, {52, 2}, {98, 2}, {99, 4}};
        for (int[] row : want) {
            x.set(1, row[0]);
            due("told(2) at " + row[0], x.told(2), row[1]);
            for (int board = 0; board < 4; board++) {
                due("of(" + board + ", 7) at " + row[0], x.of(board, 7), row[1] >> board & 1);
            }
        }
    }

    // ---- promise 6

    private static void setting(int which, int least, int greatest, int atFirst) {
        FairBoards x = new FairBoards();
        for (int v : new int[] {MIN, -1, least - 1, greatest + 1, 100, MAX}) {
            due("set(" + which + ", " + v + ")", x.set(which, v), OUTSIDE);
            due("it stays", x.told(3 + which), atFirst);
        }
        due("the greatest", x.set(which, greatest), atFirst);
        due("told", x.told(3 + which), greatest);
        due("the least", x.set(which, least), greatest);
        due("told then", x.told(3 + which), least);
        due("the least again", x.set(which, least), least);
        for (int other = 0; other < 3; other++) {
            due("another one stays", other == which ? 0 : x.told(3 + other), other == which ? 0 : other == 2 ? 1 : 0);
        }
    }

    private static void fee() {
        CHECKS.about("6: set: FEE (0 to 98; 0 at first): which it was. OUTSIDE");
        setting(0, 0, 98, 0);
    }

    private static void now() {
        CHECKS.about("6: set: NOW (0 to 99; 0 at first): which it was. OUTSIDE");
        setting(1, 0, 99, 0);
    }

    private static void drop() {
        CHECKS.about("6: set: DROP (1 to 98; 1 at first): which it was. OUTSIDE");
        setting(2, 1, 98, 1);
    }

    private static void whichOutside() {
        CHECKS.about("6: set: 0 FEE, 1 NOW, 2 DROP; OUTSIDE");
        FairBoards x = new FairBoards();
        for (int which : new int[] {MIN, -1, 3, 4, MAX}) {
            due("set(" + which + ", 1)", x.set(which, 1), OUTSIDE);
        }
        due("FEE stays", x.told(3), 0);
        due("NOW stays", x.told(4), 0);
        due("DROP stays", x.told(5), 1);
    }

    // ---- promise 28

    private static void toldWhats() {
        CHECKS.about("28: told: 0 .. 5; OUTSIDE");
        FairBoards x = new FairBoards();
        for (int what : new int[] {MIN, -6, -1, 6, 7, MAX}) {
            due("told(" + what + ")", x.told(what), OUTSIDE);
        }
        x.set(0, 98);
        x.set(1, 99);
        x.set(2, 97);
        due("told(3)", x.told(3), 98);
        due("told(4)", x.told(4), 99);
        due("told(5)", x.told(5), 97);
    }

    private static void toldCounts() {
        CHECKS.about("28: told: 0 boards, 1 signs; none and as many as there can be");
        FairBoards x = twelve();
        due("told(1) of none", x.told(1), 0);
        for (int n = 1; n <= 81; n++) {
            x.say('x');
            due("told(1) behind " + n, x.told(1), Math.min(n, 80));
        }
        x.board(0, 1, 1, 1);
        due("told(0)", x.told(0), 12);
    }

    private static void toldOpenOnes() {
        CHECKS.about("28: told: 2 OPEN ones, as bits; none, all twelve, the last alone");
        FairBoards x = twelve();
        due("all", x.told(2), 4095);
        for (int board = 0; board < 11; board++) {
            x.hours(board, 0, 0);
        }
        x.set(1, 1);
        due("the last alone", x.told(2), 2048);
        x.hours(11, 2, 2);
        due("none", x.told(2), 0);
    }
}
