/** Promises 20 to 25: worths. */
final class WorthsTest {
    private static final Checks CHECKS = new Checks("WorthsTest");
    private static final int NONE = FairBoards.NONE;
    private static final long LOST = FairBoards.LOST;

    public static void main(String[] args) {
        empty();
        gets();
        longWay();
        span();
        joined();
        gaining();
        firstCalls();
        refusals();
        worth();
        off();
        CHECKS.end();
    }

    private static void due(String call, long got, long want) {
        CHECKS.due(call, got, want);
    }

    private static void gets(FairBoards x, int from, int to, long upper, long lower) {
        String call = "gets(" + from + ", " + to + ", ";
        due(call + "0)", x.gets(from, to, 0), upper);
        due(call + "1)", x.gets(from, to, 1), lower);
    }

    private static void span(FairBoards x, int coin, int in, long... ends) {
        for (int i = 0; i < 4; i++) {
            due("span(" + coin + ", " + in + ", " + i / 2 + ", " + i % 2 + ")", x.span(coin, in, i / 2, i % 2), ends[i]);
        }
    }

    private static void empty() {
        FairBoards x = new FairBoards();
        gets(x, 5, 5, 1, 1);
        gets(x, 0, 7, 0, 1);
        span(x, 0, 7, 0, 1, 0, 1);
        span(x, 3, 3, 1, 1, 1, 1);
        due("joined(4)", x.joined(4), 16);
        due("parts()", x.parts(), 8);
    }

    /* The best way is not the shortest one, and comes in lowest terms. */
    private static void gets() {
        FairBoards x = Checks.fair("10a>11b;4a>6c;6c>8d;8d>7b;1b>1a;99h>1a");
        due("rounds(1)", x.rounds(1), 2);
        x.change(4, 0, 1);
        x.hours(4, 1, 99);
        due("rounds(1) then", x.rounds(1), 0);
        gets(x, 0, 1, 7, 4);
        gets(x, 0, 2, 3, 2);
        gets(x, 0, 3, 2, 1);
        gets(x, 2, 1, 7, 6);
        gets(x, 1, 0, 0, 1);
        gets(x, 7, 1, 7, 396);
        gets(x, 0, 7, 0, 1);
        x.set(0, 1);
        gets(x, 0, 1, 35, 32);
        x.set(0, 6);
        gets(x, 0, 1, 1, 2);
        gets(x, 0, 0, 1, 1);
    }

    private static void longWay() {
        FairBoards x = Checks.fair("1g>99h;1f>99g;1e>99f;1d>99e;1c>99d;1b>99c;1a>99b");
        gets(x, 0, 7, 93206534790699L, 1);
        span(x, 0, 7, 93206534790699L, 1, 0, 1);
        span(x, 7, 0, 0, 1, 1, 93206534790699L);
        due("parts()", x.parts(), 8);
    }

    private static void span() {
        FairBoards x = Checks.fair("4a>6b;3b>1a;1b>5c");
        span(x, 0, 1, 3, 2, 3, 1);
        span(x, 1, 0, 1, 3, 2, 3);
        span(x, 0, 2, 15, 2, 0, 1);
        span(x, 2, 0, 0, 1, 2, 15);
        span(x, 1, 1, 1, 1, 1, 1);
    }

    private static void joined() {
        FairBoards x = Checks.fair("2a>1b;2b>1c;2c>1a;2c>1d;2d>1e;2e>1d;9h>1a");
        due("joined(0)", x.joined(0), 7);
        due("joined(1)", x.joined(1), 7);
        due("joined(2)", x.joined(2), 7);
        due("joined(3)", x.joined(3), 24);
        due("joined(4)", x.joined(4), 24);
        due("joined(5)", x.joined(5), 32);
        due("joined(7)", x.joined(7), 128);
        due("parts()", x.parts(), 5);
        x.hours(2, 5, 5);
        due("joined(0) then", x.joined(0), 1);
        due("parts() then", x.parts(), 7);
        FairBoards y = Checks.fair("1h>1a;1g>1h;1f>1g;1e>1f;1d>1e;1c>1d;1b>1c;1a>1b");
        due("all joined", y.joined(6), 255);
        due("one part", y.parts(), 1);
        FairBoards z = Checks.fair("1a>1b;1b>1c;1c>1d;1d>1e;1e>1f;1f>1g;1g>1h;1h>1a");
        due("one part from the other side", z.parts(), 1);
        due("all joined from the other side", z.joined(0), 255);
    }

    private static void gaining() {
        FairBoards x = Checks.fair("1a>2b;1b>1a");
        gets(x, 0, 1, LOST - 3, LOST - 3);
        gets(x, 5, 5, LOST - 3, LOST - 3);
        span(x, 2, 3, LOST - 3, LOST - 3, LOST - 3, LOST - 3);
        due("joined(7)", x.joined(7), -3);
        due("joined(8)", x.joined(8), -1);
        due("parts()", x.parts(), -3);
        due("gets(0, 8, 0)", x.gets(0, 8, 0), LOST - 1);
        due("gets(0, 1, 2)", x.gets(0, 1, 2), LOST - 2);
        due("span(0, 1, 2, 0)", x.span(0, 1, 2, 0), LOST - 2);
        x.set(0, 1);
        gets(x, 0, 1, 1, 1);
    }

    /* Whichever call comes first behind a change sees it. */
    private static void firstCalls() {
        String fair = "1a>2b;1b>1a";
        due("gets", Checks.fair(fair).gets(0, 1, 0), LOST - 3);
        due("span", Checks.fair(fair).span(0, 1, 0, 0), LOST - 3);
        due("joined", Checks.fair(fair).joined(0), -3);
        due("parts", Checks.fair(fair).parts(), -3);
        FairBoards x = Checks.fair(fair);
        due("parts()", x.parts(), -3);
        x.set(0, 1);
        due("parts() by fee 1", x.parts(), 7);
    }

    private static void refusals() {
        FairBoards x = new FairBoards();
        due("gets(-1, 0, 0)", x.gets(-1, 0, 0), LOST - 1);
        due("gets(0, -1, 7)", x.gets(0, -1, 7), LOST - 1);
        due("gets(8, 0, 0)", x.gets(8, 0, 0), LOST - 1);
        due("gets(0, 8, 0)", x.gets(0, 8, 0), LOST - 1);
        due("gets(0, 0, -1)", x.gets(0, 0, -1), LOST - 2);
        due("gets(0, 0, 2)", x.gets(0, 0, 2), LOST - 2);
        due("span(-1, 0, 0, 0)", x.span(-1, 0, 0, 0), LOST - 1);
        due("span(0, 8, 5, 5)", x.span(0, 8, 5, 5), LOST - 1);
        due("span(0, 1, -1, 0)", x.span(0, 1, -1, 0), LOST - 2);
        due("span(0, 1, 2, 0)", x.span(0, 1, 2, 0), LOST - 2);
        due("span(0, 1, 0, -1)", x.span(0, 1, 0, -1), LOST - 2);
        due("span(0, 1, 1, 2)", x.span(0, 1, 1, 2), LOST - 2);
        due("joined(-1)", x.joined(-1), -1);
        due("joined(8)", x.joined(8), -1);
    }

    private static void worth() {
        FairBoards x = new FairBoards();
        for (int coin = 0; coin < 8; coin++) {
            due("worth(" + coin + ", 1000000)", x.worth(coin, 1000000), 1);
            due("worth(" + coin + ", 0)", x.worth(coin, 0), -2);
            due("worth(" + coin + ", 1000001)", x.worth(coin, 1000001), -2);
            due("worth(" + coin + ", " + (5 + coin) + ")", x.worth(coin, 5 + coin), 1000000);
        }
        due("worth(3, 1)", x.worth(3, 1), 8);
        due("worth(8, 0)", x.worth(8, 0), -1);
        due("worth(-1, 1)", x.worth(-1, 1), -1);
    }

    private static void off(FairBoards x, int... want) {
        for (int what = 0; what < 4; what++) {
            due("off(" + what + ")", x.off(what), want[what]);
        }
    }

    private static void off() {
        FairBoards x = new FairBoards();
        off(x, 0, NONE, 1, 0);
        due("off(4)", x.off(4), -2);
        due("off(-1)", x.off(-1), -2);
        Checks.say(x, "2a>2b;3b>5a;5a>7c;1c>1a");
        x.read();
        off(x, 2, 1, 0, 6);
        x.worth(0, 3);
        off(x, 12, 1, 0, 10);
        x.worth(1, 5);
        off(x, 4, 0, 0, 9);
        x.worth(2, 3);
        off(x, 6, 2, 0, 5);
        x.hours(2, 1, 1);
        off(x, 4, 0, 0, 1);
        x.set(0, 1);
        off(x, 0, NONE, 1, 0);
        FairBoards y = Checks.fair("1a>99b");
        y.worth(1, 1000000);
        off(y, 98999999, 0, 0, 1);
        y.worth(1, 1);
        y.worth(0, 99);
        off(y, 0, NONE, 1, 0);
        y.worth(0, 98);
        off(y, 1, 0, 0, 1);
    }
}
