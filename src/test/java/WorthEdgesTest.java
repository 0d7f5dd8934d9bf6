/** The boundary cases that the document names of worths and in promises 20 to 25, sentence by sentence. */
final class WorthEdgesTest {
    private static final Checks CHECKS = new Checks("WorthEdgesTest");
    private static final int MIN = Integer.MIN_VALUE;
    private static final int MAX = Integer.MAX_VALUE;
    private static final int NONE = -6;
    private static final int UNKNOWN = -1;
    private static final int OUTSIDE = -2;
    private static final int STATE = -3;
    private static final long LOST = -1000000000000000000L;
    private static final String GAINING = "1a>2b;1b>1a";
    private static final int[] NO_COINS = {MIN, -1, 8, 9, 97, MAX};
    private static final int[] NO_PARTS = {MIN, -1, 2, 3, MAX};

    public static void main(String[] args) {
        getsUnknown();
        getsOutside();
        getsState();
        getsItself();
        getsNothing();
        getsNoGain();
        getsGreatest();
        getsLowestTerms();
        getsFarthest();
        getsOpenOnes();
        getsByTheFee();
        spanUnknown();
        spanOutside();
        spanState();
        spanNoEnd();
        spanOfItself();
        spanBothEnds();
        joinedRefused();
        joinedItself();
        joinedBothWays();
        joinedAll();
        partsNone();
        partsOne();
        partsState();
        worthUnknown();
        worthOutside();
        worthAtFirst();
        offWhats();
        offNone();
        offMoreThan();
        offGreatest();
        offFirstSuch();
        offOpenOnes();
        offByTheFee();
        offGreatestNumbers();
        offWhileSomeGains();
        CHECKS.end();
    }

    private static void due(String call, long got, long want) {
        CHECKS.due(call, got, want);
    }

    private static void gets(FairBoards x, int from, int to, long upper, long lower) {
        String call = "gets(" + from + ", " + to + ", ";
        due(call + "0)", x.gets(from, to, 0), upper);
        due(call + "1)", x.gets(from, to, 1), lower);
    }

    private static void span(FairBoards x, int coin, int in, long... ends) {
        for (int i = 0; i < 4; i++) {
            due("span(" + coin + ", " + in + ", " + i / 2 + ", " + i % 2 + ")", x.span(coin, in, i / 2, i % 2), ends[i]);
        }
    }

    private static void off(FairBoards x, int excess, int board, int bits) {
        due("off(0)", x.off(0), excess);
        due("off(1)", x.off(1), board);
        due("off(2)", x.off(2), bits == 0 ? 1 : 0);
        due("off(3)", x.off(3), bits);
    }

    // ---- promise 20

    private static void getsUnknown() {
        CHECKS.about("20: gets: UNKNOWN (LOST less 1)");
        FairBoards x = new FairBoards();
        FairBoards y = Checks.fair(GAINING);
        for (int coin : NO_COINS) {
            due("from " + coin, x.gets(coin, 0, 0), LOST - 1);
            due("to " + coin, x.gets(0, coin, 1), LOST - 1);
            due("both " + coin, x.gets(coin, coin, 0), LOST - 1);
            due("from " + coin + ", part 2", x.gets(coin, 0, 2), LOST - 1);
            due("to " + coin + ", though some ROUND GAINS", y.gets(0, coin, 0), LOST - 1);
        }
        gets(x, 0, 7, 0, 1);
        gets(x, 7, 0, 0, 1);
    }

    private static void getsOutside() {
        CHECKS.about("20: gets: OUTSIDE (LOST less 2)");
        FairBoards x = new FairBoards();
        FairBoards y = Checks.fair(GAINING);
        for (int part : NO_PARTS) {
            due("part " + part, x.gets(0, 1, part), LOST - 2);
            due("part " + part + " of one coin", x.gets(7, 7, part), LOST - 2);
            due("part " + part + ", though some ROUND GAINS", y.gets(0, 1, part), LOST - 2);
        }
    }

    private static void getsState() {
        CHECKS.about("20: gets: STATE: some ROUND GAINS (LOST less 3)");
        FairBoards x = Checks.fair(GAINING + ";5c>1d");
        gets(x, 0, 1, LOST - 3, LOST - 3);
        gets(x, 2, 3, LOST - 3, LOST - 3);
        gets(x, 7, 7, LOST - 3, LOST - 3);
        x.change(0, 0, 1);
        gets(x, 2, 3, 1, 5);
        gets(x, 0, 1, 1, 1);
    }

    private static void getsItself() {
        CHECKS.about("Terms 3: of one coin to itself 1");
        FairBoards x = Checks.fair("2a>1b;2b>1a");
        for (int coin = 0; coin < 8; coin++) {
            gets(x, coin, coin, 1, 1);
        }
    }

    private static void getsNothing() {
        CHECKS.about("20: gets: 0 by 1: nothing");
        FairBoards x = Checks.fair("2a>1b");
        gets(x, 0, 1, 1, 2);
        gets(x, 1, 0, 0, 1);
        gets(x, 0, 7, 0, 1);
        gets(x, 7, 6, 0, 1);
        x.hours(0, 1, 1);
        gets(x, 0, 1, 0, 1);
    }

    private static void getsNoGain() {
        CHECKS.about("Terms 3: When none GAINS: a PRODUCT of just 1 does not");
        FairBoards x = Checks.fair("2a>3b;3b>2a;99c>98d;98d>99c");
        gets(x, 0, 1, 3, 2);
        gets(x, 1, 0, 2, 3);
        gets(x, 2, 3, 98, 99);
        gets(x, 3, 2, 99, 98);
    }

    private static void getsGreatest() {
        CHECKS.about("Terms 3: the greatest product, over one board or several");
        FairBoards x = Checks.fair("4a>3b;4b>3c;2a>1c");
        gets(x, 0, 2, 9, 16);
        x.change(2, 0, 2);
        gets(x, 0, 2, 1, 1);
        FairBoards y = Checks.fair("98a>97b;98b>97c;98c>97d;98d>97e;98e>97f;98f>97g;98g>97h");
        y.board(0, 98, 7, 91);
        gets(y, 0, 7, 80798284478113L, 86812553324672L);
        y.change(7, 0, 92);
        gets(y, 0, 7, 46, 49);
    }

    private static void getsLowestTerms() {
        CHECKS.about("Terms: Fractions are told in lowest terms: GETS");
        FairBoards x = Checks.fair("6a>4b;10b>9c;99d>99e");
        gets(x, 0, 1, 2, 3);
        gets(x, 0, 2, 3, 5);
        gets(x, 3, 4, 1, 1);
    }

    private static void getsFarthest() {
        CHECKS.about("Terms 3: no coin twice: over seven boards at most");
        FairBoards x = Checks.fair("1a>99b;1b>99c;1c>99d;1d>99e;1e>99f;1f>99g;1g>99h");
        gets(x, 0, 7, 93206534790699L, 1);
        FairBoards y = Checks.fair("99h>1g;99g>1f;99f>1e;99e>1d;99d>1c;99c>1b;99b>1a");
        gets(y, 7, 0, 1, 93206534790699L);
        // The same boards, told the other way about.
        FairBoards z = Checks.fair("99b>1a;99c>1b;99d>1c;99e>1d;99f>1e;99g>1f;99h>1g");
        gets(z, 7, 0, 1, 93206534790699L);
        gets(z, 0, 7, 0, 1);
    }

    private static void getsOpenOnes() {
        CHECKS.about("Terms 3: GETS: over OPEN boards");
        FairBoards x = Checks.fair("3a>2b;3a>1b");
        x.hours(0, 5, 6);
        int[][] want = {{4, 1}, {5, 2}, {6, 2}, {7, 1}};
        for (int[] row : want) {
            x.set(1, row[0]);
            gets(x, 0, 1, row[1], 3);
        }
        FairBoards y = Checks.fair(GAINING);
        y.hours(1, 5, 6);
        gets(y, 0, 1, 2, 1);
        y.set(1, 5);
        gets(y, 0, 1, LOST - 3, LOST - 3);
    }

    private static void getsByTheFee() {
        CHECKS.about("Terms 3: GETS: product of RATES, 1 given at least");
        FairBoards x = Checks.fair("7a>9b");
        int[][] want = {{0, 9, 7}, {2, 1, 1}, {7, 2, 7}, {8, 1, 7}, {9, 1, 7}, {98, 1, 7}};
        for (int[] row : want) {
            x.set(0, row[0]);
            gets(x, 0, 1, row[1], row[2]);
        }
    }

    // ---- promise 21

    private static void spanUnknown() {
        CHECKS.about("21: span: UNKNOWN, likewise (LOST less 1)");
        FairBoards x = new FairBoards();
        FairBoards y = Checks.fair(GAINING);
        for (int coin : NO_COINS) {
            due("coin " + coin, x.span(coin, 0, 0, 0), LOST - 1);
            due("in " + coin, x.span(0, coin, 1, 1), LOST - 1);
            due("both " + coin, x.span(coin, coin, 0, 0), LOST - 1);
            due("coin " + coin + ", end 2, part 2", x.span(coin, 0, 2, 2), LOST - 1);
            due("in " + coin + ", though some ROUND GAINS", y.span(0, coin, 0, 0), LOST - 1);
        }
    }

    private static void spanOutside() {
        CHECKS.about("21: span: OUTSIDE, likewise (LOST less 2)");
        FairBoards x = new FairBoards();
        FairBoards y = Checks.fair(GAINING);
        for (int v : NO_PARTS) {
            due("end " + v, x.span(0, 1, v, 0), LOST - 2);
            due("part " + v, x.span(0, 1, 0, v), LOST - 2);
            due("part " + v + " of end 1", x.span(0, 1, 1, v), LOST - 2);
            due("both " + v, x.span(0, 1, v, v), LOST - 2);
            due("end " + v + " of one coin", x.span(5, 5, v, 0), LOST - 2);
            due("end " + v + ", though some ROUND GAINS", y.span(0, 1, v, 0), LOST - 2);
            due("part " + v + ", though some ROUND GAINS", y.span(0, 1, 1, v), LOST - 2);
        }
    }

    private static void spanState() {
        CHECKS.about("21: span: STATE, likewise (LOST less 3)");
        FairBoards x = Checks.fair(GAINING);
        span(x, 0, 1, LOST - 3, LOST - 3, LOST - 3, LOST - 3);
        span(x, 6, 7, LOST - 3, LOST - 3, LOST - 3, LOST - 3);
        span(x, 7, 7, LOST - 3, LOST - 3, LOST - 3, LOST - 3);
        x.set(0, 1);
        span(x, 0, 1, 1, 1, 1, 1);
    }

    private static void spanNoEnd() {
        CHECKS.about("21: span: its greater one (0 by 1: there is none)");
        FairBoards x = Checks.fair("2a>3b");
        span(x, 0, 1, 3, 2, 0, 1);
        span(x, 1, 0, 0, 1, 2, 3);
        span(x, 5, 6, 0, 1, 0, 1);
        span(new FairBoards(), 0, 7, 0, 1, 0, 1);
    }

    private static void spanOfItself() {
        CHECKS.about("21: span of a coin in itself, as it GETS 1 of itself");
        for (int coin = 0; coin < 8; coin++) {
            span(Checks.fair("2a>1b;2b>1a"), coin, coin, 1, 1, 1, 1);
        }
    }

    private static void spanBothEnds() {
        CHECKS.about("Terms 3: it is worth GETS of it at least, and 1 by what that GETS of this at most");
        FairBoards x = Checks.fair("6a>4b;4b>4a");
        span(x, 0, 1, 2, 3, 1, 1);
        span(x, 1, 0, 1, 1, 3, 2);
        FairBoards y = Checks.fair("2a>3b;3b>2a");
        span(y, 0, 1, 3, 2, 3, 2);
        span(y, 1, 0, 2, 3, 2, 3);
        FairBoards z = Checks.fair("99h>1g;99g>1f;99f>1e;99e>1d;99d>1c;99c>1b;99b>1a");
        span(z, 7, 0, 1, 93206534790699L, 0, 1);
        span(z, 0, 7, 0, 1, 93206534790699L, 1);
    }

    // ---- promises 22 and 23

    private static void joinedRefused() {
        CHECKS.about("22: joined: UNKNOWN; STATE");
        FairBoards x = new FairBoards();
        FairBoards y = Checks.fair(GAINING);
        for (int coin : NO_COINS) {
            due("joined(" + coin + ")", x.joined(coin), UNKNOWN);
            due("joined(" + coin + "), though some ROUND GAINS", y.joined(coin), UNKNOWN);
        }
        for (int coin = 0; coin < 8; coin++) {
            due("joined(" + coin + ")", y.joined(coin), STATE);
        }
        y.change(0, 0, 1);
        due("joined(0) then", y.joined(0), 3);
    }

    private static void joinedItself() {
        CHECKS.about("22: joined: as bits, it too");
        FairBoards x = new FairBoards();
        for (int coin = 0; coin < 8; coin++) {
            due("joined(" + coin + ")", x.joined(coin), 1 << coin);
        }
    }

    private static void joinedBothWays() {
        CHECKS.about("Terms 3: JOINED: each GETS something of the other");
        FairBoards x = Checks.fair("99a>1h;99h>1g;99g>1a;1g>1b");
        due("joined(0)", x.joined(0), 1 + 64 + 128);
        due("joined(7)", x.joined(7), 1 + 64 + 128);
        due("joined(1)", x.joined(1), 2);
        due("parts()", x.parts(), 6);
        x.hours(1, 1, 1);
        due("joined(0), one board not OPEN", x.joined(0), 1);
        due("parts(), one board not OPEN", x.parts(), 8);
    }

    private static void joinedAll() {
        CHECKS.about("22: joined: all eight coins");
        String[] rings = {"1a>1b;1b>1c;1c>1d;1d>1e;1e>1f;1f>1g;1g>1h;1h>1a",
            "1h>1a;1g>1h;1f>1g;1e>1f;1d>1e;1c>1d;1b>1c;1a>1b", "1a>1e;1e>1b;1b>1f;1f>1c;1c>1g;1g>1d;1d>1h;1h>1a"};
        for (String ring : rings) {
            FairBoards x = Checks.fair(ring);
            for (int coin = 0; coin < 8; coin++) {
                due("joined(" + coin + ")", x.joined(coin), 255);
            }
            due("parts()", x.parts(), 1);
        }
    }

    private static void partsNone() {
        CHECKS.about("23: parts: none JOINED (each coin is in one)");
        due("no boards", new FairBoards().parts(), 8);
        due("boards one way", Checks.fair("1a>1b;1b>1c;1a>1c;1h>1a").parts(), 8);
    }

    private static void partsOne() {
        CHECKS.about("23: parts: how many sets of coins JOINED there are");
        due("two coins", Checks.fair("1g>1h;1h>1g").parts(), 7);
        due("four times two", Checks.fair("1a>1h;1h>1a;1b>1g;1g>1b;1c>1f;1f>1c;1d>1e;1e>1d").parts(), 4);
        due("two times four", Checks.fair("1a>1c;1c>1e;1e>1g;1g>1a;1b>1d;1d>1f;1f>1h;1h>1b").parts(), 2);
    }

    private static void partsState() {
        CHECKS.about("23: parts: STATE");
        FairBoards x = Checks.fair("1g>2h;1h>1g");
        due("parts()", x.parts(), STATE);
        x.hours(0, 1, 1);
        due("parts() then", x.parts(), 8);
        x.set(1, 1);
        due("parts() at 1", x.parts(), STATE);
        x.set(0, 1);
        due("parts() by FEE 1", x.parts(), 7);
    }

    // ---- promise 24

    private static void worthUnknown() {
        CHECKS.about("24: worth: UNKNOWN");
        FairBoards x = new FairBoards();
        for (int coin : NO_COINS) {
            due("worth(" + coin + ", 1)", x.worth(coin, 1), UNKNOWN);
            due("worth(" + coin + ", 0)", x.worth(coin, 0), UNKNOWN);
            due("worth(" + coin + ", 1000001)", x.worth(coin, 1000001), UNKNOWN);
        }
    }

    private static void worthOutside() {
        CHECKS.about("24: worth: WORTHS (1 to 1000000): which it was. OUTSIDE");
        FairBoards x = new FairBoards();
        for (int coin = 0; coin < 8; coin++) {
            for (int v : new int[] {MIN, -1, 0, 1000001, MAX}) {
                due("worth(" + coin + ", " + v + ")", x.worth(coin, v), OUTSIDE);
            }
            due("worth(" + coin + ", 1000000)", x.worth(coin, 1000000), 1);
            due("worth(" + coin + ", 0) then", x.worth(coin, 0), OUTSIDE);
            due("worth(" + coin + ", 1)", x.worth(coin, 1), 1000000);
            due("worth(" + coin + ", 1) again", x.worth(coin, 1), 1);
        }
    }

    private static void worthAtFirst() {
        CHECKS.about("Terms 3: WORTHS of coins (1 at first), each its own");
        FairBoards x = new FairBoards();
        for (int coin = 0; coin < 8; coin++) {
            due("worth(" + coin + ", 5)", x.worth(coin, 5 + coin), 1);
        }
        for (int coin = 0; coin < 8; coin++) {
            due("worth(" + coin + ", 1)", x.worth(coin, 1), 5 + coin);
        }
    }

    // ---- promise 25

    private static void offWhats() {
        CHECKS.about("25: off: what = 0 .. 3. OUTSIDE");
        FairBoards x = Checks.fair("1a>2b");
        for (int what : new int[] {MIN, -1, 4, 5, MAX}) {
            due("off(" + what + ")", x.off(what), OUTSIDE);
        }
        off(x, 1, 0, 1);
    }

    private static void offNone() {
        CHECKS.about("Terms 3: OFF: 0, if none ERRS; its board: NONE; a PROOF");
        off(new FairBoards(), 0, NONE, 0);
        off(Checks.fair("1a>1b;9b>9a"), 0, NONE, 0);
        off(Checks.fair("2a>1b"), 0, NONE, 0);
    }

    private static void offMoreThan() {
        CHECKS.about("Terms 3: A board ERRS, if .. is more than TAKES times WORTH");
        FairBoards x = Checks.fair("3a>5b");
        x.worth(0, 5);
        x.worth(1, 3);
        off(x, 0, NONE, 0);
        x.change(0, 0, 6);
        off(x, 3, 0, 1);
        FairBoards y = Checks.fair("99a>98b");
        y.worth(0, 98);
        y.worth(1, 99);
        off(y, 0, NONE, 0);
        y.worth(1, 100);
        off(y, 98, 0, 1);
        FairBoards z = Checks.fair("1a>1b");
        z.worth(0, 999999);
        z.worth(1, 1000000);
        off(z, 1, 0, 1);
        z.worth(0, 1000000);
        off(z, 0, NONE, 0);
    }

    private static void offGreatest() {
        CHECKS.about("Terms 3: OFF: the greatest such excess; those that ERR, as bits");
        FairBoards x = new FairBoards();
        for (int n = 0; n < 12; n++) {
            x.board(0, 1, 1, 2 + n);
        }
        off(x, 12, 11, 4095);
        x.worth(0, 12);
        off(x, 1, 11, 2048);
        x.worth(0, 13);
        off(x, 0, NONE, 0);
    }

    private static void offFirstSuch() {
        CHECKS.about("Terms 3: OFF: its board, the first such");
        FairBoards x = Checks.fair("1a>2b;1a>3b;2a>4b;1b>3a;1a>3b");
        off(x, 2, 1, 31);
        x.change(1, 0, 1);
        off(x, 2, 2, 29);
    }

    private static void offOpenOnes() {
        CHECKS.about("Terms 3: OFF: of OPEN boards; A PROOF: no OPEN board ERRS");
        FairBoards x = Checks.fair("1a>9b;1a>2b");
        x.hours(0, 5, 6);
        x.hours(1, 6, 7);
        off(x, 0, NONE, 0);
        x.set(1, 5);
        off(x, 8, 0, 1);
        x.set(1, 6);
        off(x, 8, 0, 3);
        x.set(1, 7);
        off(x, 1, 1, 2);
        x.set(1, 8);
        off(x, 0, NONE, 0);
    }

    private static void offByTheFee() {
        CHECKS.about("Terms 3: GIVES less the FEE (1 at least)");
        FairBoards x = Checks.fair("2a>5b");
        int[][] want = {{0, 3}, {1, 2}, {2, 1}, {3, 0}, {4, 0}, {98, 0}};
        for (int[] row : want) {
            x.set(0, row[0]);
            off(x, row[1], row[1] > 0 ? 0 : NONE, row[1] > 0 ? 1 : 0);
        }
        x.worth(1, 3);
        off(x, 1, 0, 1);
        x.set(0, 4);
        off(x, 1, 0, 1);
        x.set(0, 5);
        off(x, 1, 0, 1);
    }

    private static void offGreatestNumbers() {
        CHECKS.about("25: off: the greatest numbers there are");
        FairBoards x = Checks.fair("1a>99b;99b>1a");
        x.worth(1, 1000000);
        off(x, 98999999, 0, 1);
        x.worth(0, 1000000);
        off(x, 98000000, 0, 1);
        x.worth(1, 1);
        off(x, 1000000 - 99, 1, 2);
    }

    private static void offWhileSomeGains() {
        CHECKS.about("25: off: it has no STATE: it tells while some ROUND GAINS, too");
        FairBoards x = Checks.fair(GAINING);
        due("parts()", x.parts(), STATE);
        off(x, 1, 0, 1);
        due("worth(1, 7)", x.worth(1, 7), 1);
        off(x, 13, 0, 1);
    }
}
