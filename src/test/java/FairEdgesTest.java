/** The boundary cases that the document names of a FAIR and in promises 7 to 10, sentence by sentence. */
final class FairEdgesTest {
    private static final Checks CHECKS = new Checks("FairEdgesTest");
    private static final int NONE = -6;
    private static final int OUTSIDE = -2;
    private static final int FULL = -4;
    private static final int NO = -5;
    private static final String TEN = "1a>1b;1a>1b;1a>1b;1a>1b;1a>1b;1a>1b;1a>1b;1a>1b;1a>1b;1a>1b";
    private static final String TWELVE = TEN + ";1g>1h;1g>1h";
    /* As many boards as fill 80 signs. */
    private static final String ELEVEN_80 = "10a>10b;10b>10c;10c>10d;10d>10e;1e>10f;1f>10g;1g>10h;10h>1a;10a>1c;10c>1e;10e>1g";
    private static final String TWELVE_80 = "1a>2b;1b>3c;1c>4d;1d>50e;1e>60f;1f>70g;1g>80h;1h>90a;11a>2c;12c>3e;13e>4g;14g>5a";

    public static void main(String[] args) {
        codes();
        eightySigns();
        wipeAll();
        eachPlace();
        aboveTwoDigits();
        noNoughtAhead();
        anotherLetter();
        behindTheLast();
        oneOrMore();
        faultStays();
        eightySignsFault();
        anyNumberOfBoards();
        readNo();
        readFull();
        noAheadOfFull();
        readTwelve();
        readEmptiesSigns();
        readIsAsAtFirst();
        CHECKS.end();
    }

    private static void due(String call, long got, long want) {
        CHECKS.due(call, got, want);
    }

    private static FairBoards said(String text) {
        FairBoards x = new FairBoards();
        Checks.say(x, text);
        return x;
    }

    private static void fault(String text, int want) {
        due("fault of " + text, said(text).fault(), want);
    }

    // ---- promises 7 and 8

    private static void codes() {
        CHECKS.about("7: say: signs (codes 33 to 126); OUTSIDE");
        FairBoards x = new FairBoards();
        int[] outside = {Integer.MIN_VALUE, -1, 0, 9, 10, 13, 31, 32, 127, 128, 255, 256 + '1', 65536 + '1',
            Integer.MAX_VALUE};
        for (int sign : outside) {
            due("say(" + sign + ")", x.say(sign), OUTSIDE);
            due("none came", x.told(1), 0);
        }
        for (int sign = 33; sign <= 126; sign++) {
            due("say(" + sign + ")", x.say(sign), 1);
            due("wipe()", x.wipe(), 1);
        }
    }

    private static void eightySigns() {
        CHECKS.about("7: say: up to 80 signs: how many; OUTSIDE; FULL");
        FairBoards x = new FairBoards();
        for (int n = 1; n <= 80; n++) {
            due("sign " + n, x.say(33 + n), n);
        }
        due("an 81st", x.say(33), FULL);
        due("an 81st again", x.say(126), FULL);
        due("an 81st that is no sign", x.say(32), OUTSIDE);
        due("an 81st that is no sign either", x.say(127), OUTSIDE);
        due("told(1)", x.told(1), 80);
        x.wipe();
        due("room again", x.say(33), 1);
        FairBoards y = said(TWELVE_80);
        due("80 signs are there", y.told(1), 80);
        y.read();
        due("room behind read", y.say(33), 1);
    }

    private static void wipeAll() {
        CHECKS.about("8: wipe: Signs go: how many there were; none, one, 80");
        FairBoards x = new FairBoards();
        due("none", x.wipe(), 0);
        x.say('1');
        due("one", x.wipe(), 1);
        due("none again", x.wipe(), 0);
        Checks.say(x, ELEVEN_80);
        due("eighty", x.wipe(), 80);
        due("told(1)", x.told(1), 0);
        due("fault()", x.fault(), 0);
        Checks.say(x, "1a>1b");
        due("only what came behind", x.read(), 1);
        due("boards stay", x.wipe() + x.told(0), 1);
    }

    // ---- promise 9

    /* Behind each of these all signs are tried: those that go on, and no others. */
    private static void eachPlace() {
        CHECKS.about("9: THE FAULT: the first place at which no sign could make a text go on");
        String[][] goesOn = {
            {"", "123456789"}, {"1", "0123456789abcdefgh"}, {"9", "0123456789abcdefgh"}, {"10", "abcdefgh"},
            {"99", "abcdefgh"}, {"1a", ">"}, {"10h", ">"}, {"1a>", "123456789"}, {"1a>1", "0123456789bcdefgh"},
            {"1h>9", "0123456789abcdefg"}, {"1d>10", "abcefgh"}, {"20a>99", "bcdefgh"}, {"1a>1b", ";"},
            {"99h>99g", ";"}, {"1a>1b;", "123456789"}, {"1a>1b;5", "0123456789abcdefgh"}, {"1a>1b;5b", ">"},
            {"1a>1b;5b>", "123456789"}, {"1a>1b;5b>1", "0123456789acdefgh"}, {"1a>1b;5b>12", "acdefgh"},
            {"1a>1b;5b>12a", ";"}};
        for (String[] row : goesOn) {
            for (int sign = 33; sign <= 126; sign++) {
                boolean on = row[1].indexOf(sign) >= 0;
                String text = row[0] + (char) sign;
                int fault = said(text).fault();
                CHECKS.holds("fault of " + text + " is " + fault, on ? fault != row[0].length() : fault == row[0].length());
            }
        }
    }

    private static void aboveTwoDigits() {
        CHECKS.about("Terms 1: 1 or 2 digits");
        fault("1a>1b", NONE);
        fault("99a>99b", NONE);
        fault("100a>1b", 2);
        fault("999a>1b", 2);
        fault("1a>100b", 5);
        fault("a>1b", 0);
        fault("1a>b", 3);
    }

    private static void noNoughtAhead() {
        CHECKS.about("Terms 1: no 0 ahead");
        fault("0a>1b", 0);
        fault("01a>1b", 0);
        fault("1a>0b", 3);
        fault("1a>01b", 3);
        fault("10a>10b", NONE);
        fault("1a>1b;0", 6);
    }

    private static void anotherLetter() {
        CHECKS.about("Terms 1: what it gives, of another letter");
        for (char letter = 'a'; letter <= 'h'; letter++) {
            fault("1" + letter + ">1" + letter, 4);
            fault("10" + letter + ">10" + letter, 6);
            fault("1a>1b;2" + letter + ">2" + letter + ";", 10);
        }
        fault("1a>1b;1b>1a", NONE);
        fault("1i>1b", 1);
        fault("1a>1i", 4);
        fault("1`>1b", 1);
        fault("1A>1b", 1);
    }

    private static void behindTheLast() {
        CHECKS.about("Terms 1: behind the last sign: their number");
        String text = "12a>34b;5c>6d";
        int[] whole = {7, 13};
        for (int signs = 0; signs <= text.length(); signs++) {
            boolean done = signs == whole[0] || signs == whole[1];
            fault(text.substring(0, signs), done ? NONE : signs);
        }
    }

    private static void oneOrMore() {
        CHECKS.about("Terms 1: one or more BOARDS with a ; between two");
        fault("", 0);
        fault(";", 0);
        fault(";1a>1b", 0);
        fault("1a>1b;", 6);
        fault("1a>1b;;1a>1b", 6);
        fault("1a>1b,1a>1b", 5);
        fault("1a>1b1a>1b", 5);
        fault("1a>1b;1a>1b", NONE);
    }

    private static void faultStays() {
        CHECKS.about("9: the first place: what follows does not move it, and looking changes nothing");
        FairBoards x = said("1a<");
        due("fault()", x.fault(), 2);
        Checks.say(x, "0;1a>1b");
        due("fault() then", x.fault(), 2);
        due("fault() again", x.fault(), 2);
        due("told(1)", x.told(1), 10);
        FairBoards y = said("1a>1b");
        due("none", y.fault(), NONE);
        y.say('b');
        due("one sign more", y.fault(), 5);
    }

    private static void eightySignsFault() {
        CHECKS.about("9: THE FAULT of a text of 80 signs");
        due("signs of eleven boards", said(ELEVEN_80).told(1), 80);
        fault(ELEVEN_80, NONE);
        fault(TWELVE_80, NONE);
        fault(ELEVEN_80.substring(0, 79), 79);
        fault(ELEVEN_80.substring(0, 79) + "e", 79);
        fault(ELEVEN_80.substring(0, 79) + "i", 79);
        fault(ELEVEN_80.substring(0, 79) + "9", 80);
        fault(TWELVE_80.substring(0, 79) + ";", 79);
        String open = "10a>10b;10b>10c;10c>10d;10d>10e;10e>10f;10f>10g;10g>10h;10h>10a;10a>10c;10c>10e;";
        due("signs of it", said(open).told(1), 80);
        fault(open, 80);
        fault(open.substring(0, 79), NONE);
        FairBoards x = said(ELEVEN_80);
        x.say('0');
        due("an 81st sign is not there", x.fault(), NONE);
    }

    private static void anyNumberOfBoards() {
        CHECKS.about("9: as if any number of BOARDS might follow");
        fault(TWELVE + ";", 72);
        fault(TWELVE + ";1", 73);
        fault(TWELVE + ";1a>1b", NONE);
        fault(TWELVE + ";1a>1b;", 78);
        fault(TWELVE + ";1a>1b;1a", 80);
        FairBoards x = Checks.fair(TWELVE);
        due("with twelve boards already", x.told(0), 12);
        due("an empty text", x.fault(), 0);
        Checks.say(x, "1a>1b");
        due("a board more", x.fault(), NONE);
    }

    // ---- promise 10

    private static void refusedRead(FairBoards x, int want, int signs, int boards) {
        int fault = x.fault();
        due("read()", x.read(), want);
        due("signs stay", x.told(1), signs);
        due("boards stay", x.told(0), boards);
        due("fault() stays", x.fault(), fault);
        due("read() again", x.read(), want);
    }

    private static void readNo() {
        CHECKS.about("10: read: NO: there is a FAULT");
        refusedRead(said(""), NO, 0, 0);
        refusedRead(said("1a>1b;"), NO, 6, 0);
        refusedRead(said("1a>1b;1a>1a"), NO, 11, 0);
        refusedRead(said("1a>1b;1c"), NO, 8, 0);
        refusedRead(said("0a>1b"), NO, 5, 0);
        refusedRead(said(ELEVEN_80.substring(0, 79) + "9"), NO, 80, 0);
        FairBoards x = Checks.fair("1a>1b");
        refusedRead(x, NO, 0, 1);
        Checks.say(x, "1c>1d");
        due("read once it is whole", x.read(), 2);
    }

    private static void readFull() {
        CHECKS.about("10: read: FULL: more than 12");
        FairBoards x = said(TWELVE + ";1a>1b");
        refusedRead(x, FULL, 77, 0);
        x.wipe();
        Checks.say(x, TEN);
        due("ten", x.read(), 10);
        Checks.say(x, "1c>1d;1c>1d;1c>1d");
        refusedRead(x, FULL, 17, 10);
        x.wipe();
        Checks.say(x, "1c>1d;1c>1d");
        due("ten and two", x.read(), 12);
        Checks.say(x, "1c>1d");
        refusedRead(x, FULL, 5, 12);
        FairBoards y = Checks.fair("1a>1b");
        Checks.say(y, TWELVE);
        refusedRead(y, FULL, 71, 1);
    }

    private static void noAheadOfFull() {
        CHECKS.about("10: read: FULL (behind NO)");
        FairBoards x = Checks.fair(TWELVE);
        refusedRead(x, NO, 0, 12);
        Checks.say(x, "1a>1b;");
        refusedRead(x, NO, 6, 12);
        Checks.say(x, "1b>1c");
        refusedRead(x, FULL, 11, 12);
        refusedRead(said(TWELVE + ";1a>1b;"), NO, 78, 0);
        refusedRead(said(TWELVE + ";1a>1a"), NO, 77, 0);
    }

    private static void readTwelve() {
        CHECKS.about("10: read: The FAIR's boards come behind those that are there: how many boards");
        FairBoards x = said(TWELVE_80);
        due("twelve at once, of 80 signs", x.read(), 12);
        int[][] want = {{0, 1, 1, 2}, {1, 1, 2, 3}, {2, 1, 3, 4}, {3, 1, 4, 50}, {4, 1, 5, 60}, {5, 1, 6, 70},
            {6, 1, 7, 80}, {7, 1, 0, 90}, {0, 11, 2, 2}, {2, 12, 4, 3}, {4, 13, 6, 4}, {6, 14, 0, 5}};
        for (int board = 0; board < 12; board++) {
            for (int what = 0; what < 4; what++) {
                due("of(" + board + ", " + what + ")", x.of(board, what), want[board][what]);
            }
        }
        FairBoards y = new FairBoards();
        for (int n = 0; n < 11; n++) {
            y.board(0, 1, 1, 1);
        }
        Checks.say(y, "99h>98g");
        due("eleven and one", y.read(), 12);
        due("of(11, 0)", y.of(11, 0), 7);
        due("of(11, 1)", y.of(11, 1), 99);
        due("of(11, 2)", y.of(11, 2), 6);
        due("of(11, 3)", y.of(11, 3), 98);
    }

    private static void readEmptiesSigns() {
        CHECKS.about("10: read: (the signs are empty then)");
        FairBoards x = said("1a>1b");
        due("read()", x.read(), 1);
        due("told(1)", x.told(1), 0);
        due("fault()", x.fault(), 0);
        due("wipe()", x.wipe(), 0);
        due("read() of none", x.read(), NO);
        due("told(0)", x.told(0), 1);
    }

    private static void readIsAsAtFirst() {
        CHECKS.about("Terms 1: hours 0 and 99, MOST 1000000 at first, for boards that are read");
        FairBoards x = said("1a>1b;1b>1a");
        x.set(1, 99);
        x.read();
        for (int board = 0; board < 2; board++) {
            due("from of " + board, x.of(board, 4), 0);
            due("till of " + board, x.of(board, 5), 99);
            due("MOST of " + board, x.of(board, 6), 1000000);
            due("OPEN of " + board, x.of(board, 7), 1);
        }
    }
}
