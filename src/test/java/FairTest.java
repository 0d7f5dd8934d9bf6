/** Promises 7 to 10: signs, their fault, and boards that are read from them. */
final class FairTest {
    private static final Checks CHECKS = new Checks("FairTest");
    private static final int NONE = FairBoards.NONE;

    public static void main(String[] args) {
        say();
        faults();
        read();
        refusedRead();
        CHECKS.end();
    }

    private static void due(String call, long got, long want) {
        CHECKS.due(call, got, want);
    }

    private static void say() {
        FairBoards x = new FairBoards();
        due("wipe of nothing", x.wipe(), 0);
        due("say(32)", x.say(32), -2);
        due("say(127)", x.say(127), -2);
        for (int n = 1; n <= 80; n++) {
            due("sign " + n, x.say(n % 2 == 0 ? 33 : 126), n);
        }
        due("one more", x.say(33), -4);
        due("one more, outside", x.say(32), -2);
        due("told", x.told(1), 80);
        due("wipe", x.wipe(), 80);
        due("told then", x.told(1), 0);
        due("say again", x.say(33), 1);
        due("fault of it", x.fault(), 0);
    }

    private static void fault(String text, int want) {
        FairBoards x = new FairBoards();
        Checks.say(x, text);
        due("fault of " + text, x.fault(), want);
        due("signs stay of " + text, x.told(1), text.length());
        due("read of " + text, x.read(), want == NONE ? 1 + text.chars().filter(sign -> sign == ';').count() : -5);
        due("signs left of " + text, x.told(1), want == NONE ? 0 : text.length());
    }

    private static void faults() {
        fault("", 0);
        fault("0a>1b", 0);
        fault("a>1b", 0);
        fault(";", 0);
        fault("1", 1);
        fault("1>", 1);
        fault("1i>1b", 1);
        fault("1A>1b", 1);
        fault("1`>1b", 1);
        fault("10", 2);
        fault("100a>1b", 2);
        fault("1a", 2);
        fault("1a1", 2);
        fault("1a<1b", 2);
        fault("10a", 3);
        fault("1a>", 3);
        fault("1a>0b", 3);
        fault("1a>b", 3);
        fault("1a>1", 4);
        fault("1a>1a", 4);
        fault("1a>1i", 4);
        fault("1a>10a", 5);
        fault("1a>99", 5);
        fault("1a>100b", 5);
        fault("1a>1bb", 5);
        fault("1a>1b>", 5);
        fault("1a>1b;", 6);
        fault("1a>1b;;", 6);
        fault("1a>1b;0", 6);
        fault("1a>1b;1b>1b", 10);
        fault("1a>1b;1b>1a;", 12);
        fault("1a>1b", NONE);
        fault("9h>9g", NONE);
        fault("10a>90h", NONE);
        fault("99g>10a;1a>1b;2b>20a", NONE);
    }

    private static void read() {
        FairBoards x = new FairBoards();
        x.set(1, 20);
        Checks.say(x, "7a>10h;99h>1c");
        due("read two", x.read(), 2);
        Checks.say(x, "5d>60e");
        due("read one more", x.read(), 3);
        int[][] want = {{0, 7, 7, 10}, {7, 99, 2, 1}, {3, 5, 4, 60}};
        for (int n = 0; n < 3; n++) {
            for (int what = 0; what < 4; what++) {
                due("of(" + n + ", " + what + ")", x.of(n, what), want[n][what]);
            }
            due("from of " + n, x.of(n, 4), 0);
            due("till of " + n, x.of(n, 5), 99);
            due("most of " + n, x.of(n, 6), 1000000);
        }
        due("signs are empty", x.told(1), 0);
        due("read of nothing", x.read(), -5);
        due("boards stay", x.told(0), 3);
    }

    private static void refusedRead() {
        String nine = "1a>1b;1a>1b;1a>1b;1a>1b;1a>1b;1a>1b;1a>1b;1a>1b;1a>1b";
        String twelve = nine + ";1a>1b;1a>1b;1a>1b";
        FairBoards x = new FairBoards();
        Checks.say(x, twelve);
        due("twelve", x.read(), 12);
        Checks.say(x, "1a>1b");
        due("a thirteenth", x.read(), -4);
        due("signs stay", x.told(1), 5);
        due("boards stay", x.told(0), 12);
        x.say(';');
        due("a fault ahead of FULL", x.read(), -5);
        FairBoards y = new FairBoards();
        Checks.say(y, twelve + ";1c>1d");
        due("thirteen have no fault", y.fault(), NONE);
        due("thirteen at once", y.read(), -4);
        due("none of them came", y.told(0), 0);
        due("signs stay", y.told(1), 77);
        Checks.say(y, ";1a");
        due("a text of 80 signs may go on", y.fault(), 80);
        due("a text of 80 signs that goes on is no FAIR", y.read(), -5);
        y.wipe();
        Checks.say(y, twelve + ";1a>10b;1");
        due("signs of a text that ends in a number", y.told(1), 80);
        due("its fault", y.fault(), 80);
        FairBoards z = Checks.fair(nine);
        Checks.say(z, "1c>1d;1c>1d;1c>1d;1c>1d");
        due("nine and four", z.read(), -4);
        z.wipe();
        Checks.say(z, "1c>1d;1c>1d;1c>1d");
        due("nine and three", z.read(), 12);
        due("the last", z.of(11, 0), 2);
    }
}
