import java.util.Random;

/** Calls with numbers of every kind in every state: none may throw, and what is refused changes nothing. */
final class HardyTest {
    private static final int[] NUMBERS = {
        Integer.MIN_VALUE, -1000000000, -100, -7, -6, -5, -4, -3, -2, -1, 0, 0, 1, 1, 2, 3, 4, 5, 6, 7, 8, 9, 11, 12, 13,
        32, 33, 59, 62, 79, 80, 97, 98, 99, 100, 126, 127, 149, 150, 151, 999999, 1000000, 1000001,
        Integer.MAX_VALUE - 1, Integer.MAX_VALUE};

    /* What later calls of one object answer is free. */
    private static final int CALLS = 512;

    private final Random random;
    private final FairBoards x = new FairBoards();
    private int calls = 0;

    private HardyTest(int seed) {
        random = new Random(seed);
    }

    public static void main(String[] args) {
        Checks checks = new Checks("HardyTest");
        for (int seed = 0; seed < 3000; seed++) {
            HardyTest test = new HardyTest(seed);
            int call = -1;
            try {
                test.fill();
                while (test.calls < CALLS - 300) {
                    call = test.random.nextInt(27);
                    test.oneCall(call, checks);
                }
            } catch (RuntimeException thrown) {
                checks.due("run " + seed + ", call " + call + " threw " + thrown, 1, 0);
            }
        }
        checks.end();
    }

    private void fill() {
        int many = random.nextInt(13);
        for (int n = 0; n < many; n++) {
            x.board(random.nextInt(8), 1 + random.nextInt(99), random.nextInt(8), 1 + random.nextInt(99));
            calls++;
        }
    }

    private int any() {
        return NUMBERS[random.nextInt(NUMBERS.length)];
    }

    private long state() {
        long state = 17;
        for (int what = 0; what < 6; what++) {
            state = state * 1000003 + x.told(what);
        }
        for (int board = 0; board < x.told(0); board++) {
            for (int what = 0; what < 9; what++) {
                state = state * 1000003 + x.of(board, what);
            }
        }
        calls += 9 * x.told(0) + 8;
        return state * 1000003 + x.fault();
    }

    private void oneCall(int call, Checks checks) {
        boolean compares = random.nextInt(20) == 0;
        long before = compares ? state() : 0;
        long answer = call < 9 ? boardsCall(call) : call < 18 ? roundsCall(call) : call < 24 ? worthsCall(call) : walksCall(call);
        calls++;
        boolean alters = call == 0 || call > 1 && call < 7 || call == 8;
        if (compares && (!alters || answer < 0)) {
            checks.due("state behind call " + call, state(), before);
        }
    }

    private long boardsCall(int call) {
        switch (call) {
            case 0: return x.board(any(), any(), any(), any());
            case 1: return x.of(any(), any());
            case 2: return x.change(any(), any(), any());
            case 3: return x.hours(any(), any(), any());
            case 4: return x.set(any(), any());
            case 5: return x.say(any());
            case 6: return x.wipe();
            case 7: return x.fault();
            default: return x.read();
        }
    }

    private long roundsCall(int call) {
        switch (call) {
            case 9: return x.rounds(any());
            case 10: return x.round(any(), any());
            case 11: return x.product(any(), any());
            case 12: return x.best(any());
            case 13: return x.through(any());
            case 14: return x.blamed();
            case 15: return x.cut();
            case 16: return x.move(any());
            default: return x.edge();
        }
    }

    private long worthsCall(int call) {
        switch (call) {
            case 18: return x.gets(any(), any(), any());
            case 19: return x.span(any(), any(), any(), any());
            case 20: return x.joined(any());
            case 21: return x.parts();
            case 22: return x.worth(any(), any());
            default: return x.off(any());
        }
    }

    private long walksCall(int call) {
        switch (call) {
            case 24: return x.walk(any(), any(), any(), any(), any());
            case 25: return x.walkers(any());
            default: return x.told(any());
        }
    }
}
