/** The boundary cases that the document names of ROUNDS and in promises 11 to 19, sentence by sentence. */
final class RoundEdgesTest {
    private static final Checks CHECKS = new Checks("RoundEdgesTest");
    private static final int MIN = Integer.MIN_VALUE;
    private static final int MAX = Integer.MAX_VALUE;
    private static final int NONE = -6;
    private static final int UNKNOWN = -1;
    private static final int OUTSIDE = -2;
    private static final int STATE = -3;
    private static final long LOST = -1000000000000000000L;
    /* A round over all eight coins. */
    private static final String RING = "1a>99b;1b>99c;1c>99d;1d>99e;1e>99f;1f>99g;1g>99h;1h>99a";

    public static void main(String[] args) {
        withoutBoards();
        roundsWhats();
        aboveOne();
        openBoards();
        lookedAtAnew();
        noCoinTwice();
        lastGivesTheFirst();
        leastCoin();
        inOrder();
        mostRounds();
        roundNumbers();
        roundPlaces();
        productNumbers();
        productParts();
        lowestTerms();
        greatestProducts();
        bestWhats();
        mostFirstSuch();
        mostByTheFee();
        mostByAHair();
        shortestFirstSuch();
        numberAmongThoseThatGain();
        throughBoards();
        throughGainersAlone();
        blamedNone();
        blamedAll();
        cutNone();
        cutFewest();
        cutLeastAsBits();
        cutOpenOnes();
        moveRefused();
        moveNothing();
        moveOneLeft();
        moveNone();
        moveOfTwelve();
        moveByTheFee();
        edgeNothing();
        edgeLeast();
        edgeGreatest();
        edgeWhateverFee();
        CHECKS.end();
    }

    private static void due(String call, long got, long want) {
        CHECKS.due(call, got, want);
    }

    private static void round(FairBoards x, int n, int... boards) {
        due("round(" + n + ", -1)", x.round(n, -1), boards.length);
        for (int i = 0; i < boards.length; i++) {
            due("round(" + n + ", " + i + ")", x.round(n, i), boards[i]);
        }
        due("round(" + n + ", " + boards.length + ")", x.round(n, boards.length), NONE);
    }

    private static void product(FairBoards x, int n, long upper, long lower) {
        due("product(" + n + ", 0)", x.product(n, 0), upper);
        due("product(" + n + ", 1)", x.product(n, 1), lower);
    }

    private static void rounds(FairBoards x, int all, int gaining) {
        due("rounds(0)", x.rounds(0), all);
        due("rounds(1)", x.rounds(1), gaining);
    }

    // ---- promise 11

    private static void withoutBoards() {
        CHECKS.about("11 to 19: without boards");
        FairBoards x = new FairBoards();
        rounds(x, 0, 0);
        due("round(0, -1)", x.round(0, -1), UNKNOWN);
        due("product(0, 0)", x.product(0, 0), LOST - 1);
        due("best(0)", x.best(0), NONE);
        due("best(1)", x.best(1), NONE);
        due("through(0)", x.through(0), UNKNOWN);
        due("blamed()", x.blamed(), 0);
        due("cut()", x.cut(), 0);
        due("move(0)", x.move(0), UNKNOWN);
        due("edge()", x.edge(), 0);
    }

    private static void roundsWhats() {
        CHECKS.about("11: rounds: what = 0, 1. OUTSIDE");
        FairBoards x = Checks.fair("1a>2b;1b>1a");
        for (int what : new int[] {MIN, -6, -1, 2, 3, MAX}) {
            due("rounds(" + what + ")", x.rounds(what), OUTSIDE);
        }
        rounds(x, 1, 1);
    }

    private static void aboveOne() {
        CHECKS.about("Terms 2: It GAINS, if that is above 1");
        rounds(Checks.fair("2a>3b;3b>2a"), 1, 0);
        rounds(Checks.fair("99a>98b;98b>99a"), 1, 0);
        rounds(Checks.fair("99a>98b;97b>98a"), 1, 1);
        rounds(Checks.fair("98a>99b;99b>97a"), 1, 0);
        rounds(Checks.fair("7a>99b;99b>99c;99c>99d;99d>99e;99e>99f;99f>99g;99g>99h;99h>7a"), 1, 0);
        rounds(Checks.fair("7a>99b;99b>99c;99c>99d;99d>99e;99e>99f;99f>99g;99g>99h;98h>7a"), 1, 1);
    }

    private static void openBoards() {
        CHECKS.about("Terms 2: A ROUND: OPEN boards");
        FairBoards x = Checks.fair("1a>2b;1b>1a");
        x.hours(1, 5, 6);
        int[][] want = {{0, 0}, {4, 0}, {5, 1}, {6, 1}, {7, 0}, {99, 0}};
        for (int[] row : want) {
            x.set(1, row[0]);
            rounds(x, row[1], row[1]);
        }
    }

    /* Nothing of what was found before may be left. */
    private static void lookedAtAnew() {
        CHECKS.about("Terms 2: OPEN boards, GAINS: as it is now, whatever was looked at before");
        FairBoards x = Checks.fair("1a>2b;1b>2c;1c>2a;1a>2b;1b>2a;1b>3a");
        x.hours(0, 0, 0);
        x.hours(3, 1, 99);
        rounds(x, 3, 3);
        round(x, 0, 0, 1, 2);
        due("blamed() at 0", x.blamed(), 1);
        x.set(1, 1);
        round(x, 0, 3, 1, 2);
        due("blamed() at 1", x.blamed(), 8);
        due("through(0) at 1", x.through(0), 0);
        x.change(2, 0, 1);
        x.hours(4, 0, 0);
        x.hours(1, 0, 0);
        rounds(x, 1, 1);
        round(x, 0, 3, 5);
        due("blamed() of one", x.blamed(), 8 + 32);
        Checks.say(x, "1b>9a;1c>9d;1d>1c");
        x.read();
        rounds(x, 3, 3);
        due("best(0) of what was read", x.best(0), 1);
        x.set(0, 2);
        rounds(x, 3, 2);
        due("blamed() by FEE 2", x.blamed(), 0);
        due("cut() by FEE 2", x.cut(), 8 + 128);
        x.set(0, 98);
        rounds(x, 3, 0);
        due("round(0, -1) by FEE 98", x.round(0, -1), UNKNOWN);
        due("cut() by FEE 98", x.cut(), 0);
    }

    private static void noCoinTwice() {
        CHECKS.about("Terms 2: no coin taken twice");
        FairBoards x = Checks.fair("1a>2b;1b>2a;1a>2c;1c>2a");
        rounds(x, 2, 2);
        round(x, 0, 0, 1);
        round(x, 1, 2, 3);
        FairBoards y = Checks.fair("1a>2b;1b>2c;1c>2b;1c>2a");
        rounds(y, 2, 2);
        round(y, 0, 0, 1, 3);
        round(y, 1, 1, 2);
    }

    private static void lastGivesTheFirst() {
        CHECKS.about("Terms 2: the first one what the last gave");
        rounds(Checks.fair("1a>2b;1b>2c"), 0, 0);
        rounds(Checks.fair("1a>2b;1a>2b"), 0, 0);
        rounds(Checks.fair("1a>2b;1c>2a"), 0, 0);
        rounds(Checks.fair("1a>2b;1b>2c;1c>2d;1d>2b"), 1, 1);
        rounds(Checks.fair("1g>2h;1h>2g"), 1, 1);
    }

    private static void leastCoin() {
        CHECKS.about("Terms 2: it begins with its board of the least coin that is taken");
        round(Checks.fair("1h>2g;1g>2h"), 0, 1, 0);
        round(Checks.fair("1c>2b;1b>2d;1d>2c"), 0, 1, 2, 0);
        round(Checks.fair("1h>9a;1g>9h;1f>9g;1e>9f;1d>9e;1c>9d;1b>9c;1a>9b"), 0, 7, 6, 5, 4, 3, 2, 1, 0);
    }

    private static void inOrder() {
        CHECKS.about("Terms 2: in order of the least coin, then board by board by numbers");
        FairBoards x = Checks.fair("1g>2h;1h>2g;1b>2a;1a>2c;1c>2a;1a>2b;1b>2c");
        rounds(x, 4, 4);
        round(x, 0, 3, 4);
        round(x, 1, 5, 2);
        round(x, 2, 5, 6, 4);
        round(x, 3, 0, 1);
        // The longer one is ahead where its boards are, whatever their number.
        FairBoards y = Checks.fair("1a>2b;1b>2c;1c>2a;1b>2a");
        round(y, 0, 0, 1, 2);
        round(y, 1, 0, 3);
    }

    private static void mostRounds() {
        CHECKS.about("11: rounds: as many as twelve boards can make");
        FairBoards x = new FairBoards();
        for (int n = 0; n < 12; n++) {
            x.board(n % 4, 1, (n + 1) % 4, 99);
        }
        rounds(x, 81, 81);
        round(x, 80, 8, 9, 10, 11);
        due("round(81, -1)", x.round(81, -1), UNKNOWN);
        product(x, 80, 96059601, 1);
        due("product(81, 0)", x.product(81, 0), LOST - 1);
        // Of all coins to one another as far as twelve boards go: rounds of several least coins.
        FairBoards y = new FairBoards();
        for (int from = 0; from < 4; from++) {
            for (int to = 0; to < 4; to++) {
                y.board(from, 1, to, 2);
            }
        }
        due("boards", y.told(0), 12);
        rounds(y, 20, 20);
        due("the first of them", y.round(0, -1), 2);
        round(y, 19, 8, 11);
    }

    // ---- promise 12

    private static void roundNumbers() {
        CHECKS.about("12: round: the n-th that GAINS (from 0 on). UNKNOWN: there is no such");
        FairBoards x = Checks.fair("1a>1b;1b>1a;1c>2d;1d>1c");
        rounds(x, 2, 1);
        round(x, 0, 2, 3);
        for (int n : new int[] {MIN, -1, 1, 2, 150, MAX}) {
            due("round(" + n + ", -1)", x.round(n, -1), UNKNOWN);
            due("round(" + n + ", 0)", x.round(n, 0), UNKNOWN);
            due("round(" + n + ", 9)", x.round(n, 9), UNKNOWN);
        }
    }

    private static void roundPlaces() {
        CHECKS.about("12: round: how many boards (i = -1), its i-th board; NONE");
        FairBoards x = Checks.fair("1a>2b;1b>1a");
        round(x, 0, 0, 1);
        for (int i : new int[] {MIN, -16, -2, 2, 3, 7, 8, 9, 12, 15, 16, 31, 32, 64, MAX}) {
            due("round(0, " + i + ")", x.round(0, i), NONE);
        }
        FairBoards y = Checks.fair(RING);
        round(y, 0, 0, 1, 2, 3, 4, 5, 6, 7);
        for (int i : new int[] {8, 9, 16, 17, MAX}) {
            due("round(0, " + i + ")", y.round(0, i), NONE);
        }
    }

    // ---- promise 13

    private static void productNumbers() {
        CHECKS.about("13: product: of the n-th that GAINS. UNKNOWN (LOST less 1)");
        FairBoards x = Checks.fair("1a>1b;1b>1a;1c>2d;1d>1c");
        product(x, 0, 2, 1);
        for (int n : new int[] {MIN, -1, 1, 2, 150, MAX}) {
            due("product(" + n + ", 0)", x.product(n, 0), LOST - 1);
            due("product(" + n + ", 1)", x.product(n, 1), LOST - 1);
            due("product(" + n + ", 2)", x.product(n, 2), LOST - 1);
        }
    }

    private static void productParts() {
        CHECKS.about("13: product: part 0, 1. OUTSIDE (LOST less 2)");
        FairBoards x = Checks.fair("1a>2b;1b>1a");
        for (int part : new int[] {MIN, -1, 2, 3, MAX}) {
            due("product(0, " + part + ")", x.product(0, part), LOST - 2);
        }
    }

    private static void lowestTerms() {
        CHECKS.about("Terms: Fractions are told in lowest terms");
        product(Checks.fair("2a>4b;3b>6a"), 0, 4, 1);
        product(Checks.fair("4a>6b;10b>9a"), 0, 27, 20);
        product(Checks.fair("4a>6b;9b>8a"), 0, 4, 3);
        FairBoards x = Checks.fair("96a>97b;72b>96a");
        product(x, 0, 97, 72);
        x.set(0, 1);
        product(x, 0, 95, 72);
    }

    private static void greatestProducts() {
        CHECKS.about("Terms 2: Its PRODUCT: all RATES; the greatest numbers and the least FEE");
        FairBoards x = Checks.fair(RING);
        product(x, 0, 9227446944279201L, 1);
        x.set(0, 97);
        product(x, 0, 256, 1);
        x.set(0, 98);
        rounds(x, 1, 0);
        FairBoards y = Checks.fair("98a>99b;98b>99c;98c>99d;98d>99e;98e>99f;98f>99g;98g>99h;98h>99a");
        product(y, 0, 9227446944279201L, 8507630225817856L);
    }

    // ---- promise 14

    private static void bestWhats() {
        CHECKS.about("14: best: what = 0, 1; NONE. OUTSIDE");
        FairBoards x = Checks.fair("1a>1b;1b>1a");
        due("best(0)", x.best(0), NONE);
        due("best(1)", x.best(1), NONE);
        for (int what : new int[] {MIN, -1, 2, 3, MAX}) {
            due("best(" + what + ")", x.best(what), OUTSIDE);
        }
        x.change(0, 0, 2);
        due("best(0) then", x.best(0), 0);
        due("best(1) then", x.best(1), 0);
        due("best(2) then", x.best(2), OUTSIDE);
    }

    private static void mostFirstSuch() {
        CHECKS.about("Terms 2: the one with the greatest PRODUCT, the first such");
        FairBoards x = Checks.fair("3a>4b;2a>4b;1a>2b;4a>8b;5a>9b;1b>1a");
        rounds(x, 5, 5);
        due("best(0)", x.best(0), 1);
        x.change(4, 0, 10);
        due("best(0) of four alike", x.best(0), 1);
        x.change(4, 0, 11);
        due("best(0) of the last", x.best(0), 4);
    }

    private static void mostByTheFee() {
        CHECKS.about("Terms 2: the greatest PRODUCT: of RATES, less the FEE");
        FairBoards x = Checks.fair("1a>3b;9a>26b;1b>1a");
        due("best(0)", x.best(0), 0);
        x.set(0, 1);
        due("best(0) by FEE 1", x.best(0), 1);
        x.set(1, 1);
        x.set(0, 0);
        due("best(0) by FEE 0 at 1", x.best(0), 0);
        x.set(0, 16);
        due("best(0) by FEE 16", x.best(0), 0);
        due("rounds(1) by FEE 16", x.rounds(1), 1);
        x.set(0, 17);
        due("best(0) by FEE 17", x.best(0), NONE);
    }

    /* Cross products of these do not fit into a long, and their quotients are alike in many places. */
    private static void mostByAHair() {
        CHECKS.about("Terms 2: the greatest PRODUCT, by a hair");
        String seven = ";98b>99c;98c>99d;98d>99e;98e>99f;98f>99g;98g>99h;98h>99a";
        FairBoards x = Checks.fair("97a>98b" + seven);
        x.board(0, 98, 1, 99);
        x.board(0, 96, 1, 97);
        rounds(x, 3, 3);
        due("best(0)", x.best(0), 2);
        FairBoards y = Checks.fair("96a>97b" + seven);
        y.board(0, 97, 1, 98);
        y.board(0, 98, 1, 99);
        due("best(0) of the first", y.best(0), 0);
        FairBoards z = Checks.fair("49a>50b" + seven);
        z.board(0, 98, 1, 99);
        due("best(0) where it is not even near", z.best(0), 0);
        z.board(0, 98, 1, 99);
        z.change(0, 0, 49);
        due("best(0) of two alike", z.best(0), 1);
    }

    private static void shortestFirstSuch() {
        CHECKS.about("Terms 2: THE SHORTEST: with the fewest boards, the first such");
        FairBoards x = Checks.fair("1a>2b;1b>2c;1c>2a;1b>2a;1b>9a;1d>2e;1e>2d");
        rounds(x, 4, 4);
        due("best(1)", x.best(1), 1);
        x.hours(3, 1, 1);
        due("best(1) of those left", x.best(1), 1);
        x.hours(4, 1, 1);
        due("best(1) of the last", x.best(1), 1);
        x.hours(5, 1, 1);
        due("best(1) of three boards", x.best(1), 0);
        FairBoards y = Checks.fair(RING);
        due("best(1) of eight boards", y.best(1), 0);
    }

    private static void numberAmongThoseThatGain() {
        CHECKS.about("14: best: as the number of a ROUND that GAINS");
        FairBoards x = Checks.fair("1a>1b;1b>1a;1c>1d;1d>2c;1e>1f;1f>3e");
        rounds(x, 3, 2);
        due("best(0)", x.best(0), 1);
        due("best(1)", x.best(1), 0);
    }

    // ---- promise 15

    private static void throughBoards() {
        CHECKS.about("15: through: UNKNOWN");
        FairBoards x = Checks.fair("1a>2b;1b>1a");
        for (int board : new int[] {MIN, -1, 2, 11, 12, 31, 32, 33, MAX}) {
            due("through(" + board + ")", x.through(board), UNKNOWN);
        }
        due("through(0)", x.through(0), 1);
        due("through(1)", x.through(1), 1);
    }

    private static void throughGainersAlone() {
        CHECKS.about("15: through: ROUNDS that GAIN");
        FairBoards x = Checks.fair("1a>2b;1b>1a;2b>1a;1c>1d;1b>9a");
        x.hours(4, 1, 9);
        int[] want = {1, 1, 0, 0, 0};
        for (int board = 0; board < want.length; board++) {
            due("through(" + board + ")", x.through(board), want[board]);
        }
        FairBoards y = new FairBoards();
        for (int n = 0; n < 12; n++) {
            y.board(n % 4, 1, (n + 1) % 4, 99);
        }
        due("the last of twelve", y.through(11), 27);
        y.hours(11, 1, 1);
        due("the last, not OPEN", y.through(11), 0);
        due("the first then", y.through(0), 18);
    }

    // ---- promise 16

    private static void blamedNone() {
        CHECKS.about("16: blamed: 0 without ROUNDS that GAIN");
        due("boards alone", Checks.fair("1a>9b").blamed(), 0);
        due("a round that does not", Checks.fair("1a>1b;1b>1a").blamed(), 0);
        due("rounds apart", Checks.fair("1a>2b;1b>1a;1c>2d;1d>1c").blamed(), 0);
    }

    private static void blamedAll() {
        CHECKS.about("16: boards that are in all ROUNDS that GAIN, as bits");
        due("one round of eight", Checks.fair(RING).blamed(), 255);
        FairBoards x = new FairBoards();
        for (int n = 0; n < 11; n++) {
            x.board(0, 1, 1, 1);
        }
        x.board(1, 1, 0, 2);
        due("the last of twelve", x.blamed(), 2048);
        x.hours(11, 1, 1);
        due("when it is not OPEN", x.blamed(), 0);
        due("a round that does not gain counts not", Checks.fair("1a>2b;1b>1a;2b>1a").blamed(), 3);
    }

    // ---- promise 17

    private static void cutNone() {
        CHECKS.about("17: cut: none GAINS");
        due("no board OPEN", noneOpen().cut(), 0);
        due("boards alone", Checks.fair("1a>9b;1a>9b").cut(), 0);
        due("a round that does not", Checks.fair("1a>1b;1b>1a").cut(), 0);
    }

    private static FairBoards noneOpen() {
        FairBoards x = Checks.fair("1a>2b;1b>2a");
        x.hours(0, 0, 0);
        x.hours(1, 0, 0);
        x.set(1, 1);
        return x;
    }

    private static void cutFewest() {
        CHECKS.about("Terms 2: CUT: the fewest OPEN boards without which none GAINS");
        FairBoards x = new FairBoards();
        for (int n = 0; n < 11; n++) {
            x.board(0, 1, 1, 1);
        }
        x.board(1, 1, 0, 2);
        due("one, though its bit is the greatest", x.cut(), 2048);
        FairBoards y = new FairBoards();
        for (int n = 0; n < 12; n++) {
            y.board(n < 6 ? 0 : 1, 1, n < 6 ? 1 : 0, 2);
        }
        due("six of twelve", y.cut(), 63);
        y.hours(0, 1, 1);
        due("five of eleven", y.cut(), 62);
        due("a round that does not gain may stay", Checks.fair("1a>2b;1b>1a;2b>1a").cut(), 1);
        due("one on each of two rounds apart", Checks.fair("1a>2b;1b>1a;1c>2d;1d>1c").cut(), 5);
    }

    private static void cutLeastAsBits() {
        CHECKS.about("Terms 2: CUT: of several the least as bits");
        due("two boards", Checks.fair("1a>2b;1b>2a").cut(), 1);
        due("eight boards", Checks.fair(RING).cut(), 1);
        FairBoards x = Checks.fair("1a>1b;1c>1a;1b>2c;1b>1a;1a>1b");
        due("board 1 or board 2", x.cut(), 2);
        // Either way two boards go: 0 and 3, or 1 and 2.
        FairBoards y = Checks.fair("1a>2b;1b>2a;1b>2a;1a>2b");
        due("boards 1 and 2 of four", y.cut(), 6);
        y.board(0, 1, 1, 2);
        due("with a third way there", y.cut(), 6);
    }

    private static void cutOpenOnes() {
        CHECKS.about("Terms 2: CUT: OPEN boards");
        FairBoards x = Checks.fair("1b>2a;1a>2b;1b>2a;1b>2a");
        x.hours(0, 1, 1);
        due("without board 0", x.cut(), 2);
        x.set(1, 1);
        due("with board 0", x.cut(), 2);
        FairBoards y = Checks.fair("1a>9b;1b>9a;1a>2b;1b>2a");
        y.hours(0, 1, 1);
        y.hours(1, 1, 1);
        due("the two last", y.cut(), 4);
    }

    // ---- promise 18

    private static void moveRefused() {
        CHECKS.about("18: move: UNKNOWN; STATE: it is not OPEN");
        FairBoards x = Checks.fair("1a>2b;1b>1a;1c>1d");
        for (int board : new int[] {MIN, -1, 3, 11, 12, 32, MAX}) {
            due("move(" + board + ")", x.move(board), UNKNOWN);
        }
        x.hours(2, 5, 6);
        int[][] want = {{0, STATE}, {4, STATE}, {5, NONE}, {6, NONE}, {7, STATE}};
        for (int[] row : want) {
            x.set(1, row[0]);
            due("move(2) at " + row[0], x.move(2), row[1]);
        }
        x.change(0, 0, 1);
        due("move(2), though none GAINS", x.move(2), STATE);
    }

    private static void moveNothing() {
        CHECKS.about("Terms 2: MOVE: the least number .. so that none GAINS; none does already");
        FairBoards x = Checks.fair("1a>1b;1b>1a;1c>99d");
        for (int board = 0; board < 3; board++) {
            due("move(" + board + ")", x.move(board), 0);
        }
    }

    private static void moveOneLeft() {
        CHECKS.about("Terms 2: MOVE: 1 left at least");
        due("2 to 1", Checks.fair("1a>2b;1b>1a").move(0), 1);
        due("99 to 1", Checks.fair("1a>99b;1b>1a").move(0), 98);
        due("99 to 1 is not enough", Checks.fair("1a>99b;1b>2a").move(0), NONE);
        due("2 to 1 is not enough", Checks.fair("1a>2b;1b>2a").move(0), NONE);
        due("1 stays", Checks.fair("1a>2b;1b>1a").move(1), NONE);
        due("just as much as was taken", Checks.fair("3a>7b;2b>1a").move(0), 1);
        due("just as much comes back", Checks.fair("2a>5b;2b>2a").move(0), 3);
    }

    private static void moveNone() {
        CHECKS.about("18: move: NONE: no lower GIVES does");
        FairBoards x = Checks.fair("1a>9b;9b>10a;1c>9d;9d>10c;9e>9f");
        for (int board = 0; board < 5; board++) {
            due("move(" + board + ")", x.move(board), NONE);
        }
        x.hours(2, 1, 1);
        due("move(0) of one round", x.move(0), NONE);
        due("move(1) of one round", x.move(1), 9);
        due("move(3) outside of it", x.move(3), NONE);
        due("of(1, 3) stays", x.of(1, 3), 10);
        due("rounds(1) stays", x.rounds(1), 1);
    }

    private static void moveOfTwelve() {
        CHECKS.about("Terms 2: MOVE: all else as it is: twelve boards");
        FairBoards x = new FairBoards();
        for (int n = 0; n < 10; n++) {
            x.board(2, 1, 3, 1);
        }
        x.board(0, 1, 1, 5);
        x.board(1, 4, 0, 2);
        due("move(10)", x.move(10), 3);
        due("move(11)", x.move(11), NONE);
        due("move(9)", x.move(9), NONE);
        x.change(10, 0, 4);
        due("move(10) then", x.move(10), 2);
        due("move(11) then", x.move(11), 1);
    }

    private static void moveByTheFee() {
        CHECKS.about("Terms 2: MOVE: all else as it is: the FEE");
        FairBoards x = Checks.fair("1a>9b;1b>1a");
        x.set(0, 3);
        due("move(0)", x.move(0), 5);
        x.set(0, 7);
        due("move(0) by FEE 7", x.move(0), 1);
        x.set(0, 8);
        due("move(0) by FEE 8", x.move(0), 0);
        FairBoards y = Checks.fair("1a>9b;1b>9a");
        y.set(0, 7);
        due("2 by 1 is what the other one gives", y.move(0), NONE);
    }

    // ---- promise 19

    private static void edgeNothing() {
        CHECKS.about("19: edge: none GAINS by FEE 0");
        due("no board", new FairBoards().edge(), 0);
        due("a round that does not", Checks.fair("2a>3b;3b>2a").edge(), 0);
        due("no board OPEN", noneOpen().edge(), 0);
    }

    private static void edgeLeast() {
        CHECKS.about("Terms 2: EDGE: the least FEE by which none GAINS");
        due("1", Checks.fair("1a>2b;1b>2a").edge(), 1);
        due("1, as each board gives less", Checks.fair("9a>10b;9b>10a").edge(), 1);
        due("just as much", Checks.fair("2a>5b;2b>2a").edge(), 1);
        due("1 at least is given", Checks.fair("1a>5b;1b>1a").edge(), 4);
        due("of two rounds the greater one", Checks.fair("1a>2b;1b>1a;1c>7d;1d>1c").edge(), 6);
    }

    private static void edgeGreatest() {
        CHECKS.about("19: edge: the greatest FEE there is (by 98 each board gives 1: NONE does not come)");
        due("98", Checks.fair("1a>99b;1b>1a").edge(), 98);
        due("98 of eight", Checks.fair(RING).edge(), 98);
        due("97", Checks.fair("1a>98b;1b>98a").edge(), 97);
    }

    private static void edgeWhateverFee() {
        CHECKS.about("19: edge: whatever FEE is set, and the FEE stays");
        FairBoards x = Checks.fair("1a>5b;1b>1a");
        for (int fee : new int[] {0, 1, 3, 4, 5, 98}) {
            x.set(0, fee);
            due("edge() by FEE " + fee, x.edge(), 4);
            due("FEE stays", x.told(3), fee);
            due("rounds(1)", x.rounds(1), fee < 4 ? 1 : 0);
        }
    }
}
