import java.util.ArrayList;
import java.util.List;
import java.util.function.ToLongFunction;

/**
 * Terms: every call is tried with numbers at and behind each bound, all of them with one another, in several states:
 * it answers the first refusal that fits, and behind it all is as if it had not come.
 */
final class RefusalsTest {
    private static final Checks CHECKS = new Checks("RefusalsTest");
    private static final long LOST = -1000000000000000000L;
    private static final int[] COINS = {Integer.MIN_VALUE, -1, 0, 7, 8, Integer.MAX_VALUE};
    private static final int[] BOARDS = {Integer.MIN_VALUE, -1, 0, 1, 3, 11, 12, Integer.MAX_VALUE};
    private static final int[] AMOUNTS = {Integer.MIN_VALUE, -1, 0, 1, 99, 100, Integer.MAX_VALUE};
    private static final int[] WHATS = {Integer.MIN_VALUE, -1, 0, 1, 2, 3, 4, 5, 6, 8, 9, Integer.MAX_VALUE};
    private static final int[] MANY = {Integer.MIN_VALUE, -1, 0, 1, 99, 100, 1000000, 1000001, Integer.MAX_VALUE};
    /* With what makes a scene and what is looked at behind them an object has 512 calls at most. */
    private static final int AT_ONCE = 100;

    public static void main(String[] args) {
        for (Scene scene : Scene.values()) {
            RefusalsTest test = new RefusalsTest(scene);
            CHECKS.about("Terms: refused calls answer the first that fits, and change nothing: " + scene);
            test.boards();
            test.changes();
            test.hours();
            test.settings();
            test.signs();
            test.rounds();
            test.fractions();
            test.worths();
            test.walks();
            test.run();
            CHECKS.about("Terms: calls that only tell change nothing: " + scene);
            test.tellingCalls();
            test.run();
        }
        CHECKS.end();
    }

    /** What a call is refused in. */
    private enum Scene {
        EMPTY(0, 0, true, false, 0),
        GAINING(5, 9, true, true, 15),
        STILL(4, 5, false, false, 7),
        FULL_OF_BOARDS(12, 5, false, true, 4095),
        FULL_AND_A_FAULT(12, 6, true, true, 4095),
        FULL_OF_SIGNS(2, 80, true, false, 3);

        final int boards;
        final int signs;
        final boolean fault;
        final boolean gains;
        final int open;

        Scene(int boards, int signs, boolean fault, boolean gains, int open) {
            this.boards = boards;
            this.signs = signs;
            this.fault = fault;
            this.gains = gains;
            this.open = open;
        }

        FairBoards make() {
            FairBoards x = new FairBoards();
            switch (this) {
                case EMPTY:
                    return x;
                case GAINING:
                    Checks.say(x, "2a>3b;3b>4c;5c>3a;2b>1a;7c>9b");
                    x.read();
                    x.hours(4, 5, 9);
                    Checks.say(x, "12a>3c;4d");
                    break;
                case STILL:
                    Checks.say(x, "2a>3b;3b>2a;1c>1d;5d>3e");
                    x.read();
                    x.hours(3, 1, 8);
                    Checks.say(x, "9h>8g");
                    break;
                case FULL_OF_SIGNS:
                    x.board(0, 5, 1, 4);
                    x.board(1, 5, 0, 4);
                    Checks.say(x, "1a>1b;1c>1d;1e>1f;1g>1h;1a>1b;1c>1d;1e>1f;1g>1h;1a>1b;1c>1d;1e>1f;1g>1h;10a>10b;");
                    break;
                default:
                    for (int n = 0; n < 12; n++) {
                        x.board(n % 4, 2 + n % 3, (n + 1) % 4, 3 + n % 2);
                    }
                    Checks.say(x, this == FULL_OF_BOARDS ? "1a>2b" : "1a>2b;");
            }
            x.set(2, 2);
            x.worth(0, 17);
            x.worth(7, 1000000);
            if (boards > 1) {
                x.change(1, 1, 40);
            }
            return x;
        }
    }

    private record Call(String name, ToLongFunction<FairBoards> on, long want) {
    }

    private final Scene scene;
    private final List<Call> calls = new ArrayList<>();

    private RefusalsTest(Scene scene) {
        this.scene = scene;
    }

    // ---- which refusal is due

    private static boolean isCoin(int coin) {
        return coin >= 0 && coin <= 7;
    }

    private boolean isBoard(int board) {
        return board >= 0 && board < scene.boards;
    }

    private static boolean isWithin(int v, int least, int greatest) {
        return v >= least && v <= greatest;
    }

    /* In the order of the document: UNKNOWN -1, OUTSIDE -2, STATE -3, FULL -4; 0, if none fits. */
    private static int first(boolean unknown, boolean outside, boolean state, boolean full) {
        boolean[] fits = {unknown, outside, state, full};
        for (int i = 0; i < fits.length; i++) {
            if (fits[i]) {
                return -1 - i;
            }
        }
        return 0;
    }

    private void refused(int refusal, String name, ToLongFunction<FairBoards> on) {
        if (refusal != 0) {
            calls.add(new Call(name, on, refusal));
        }
    }

    private void lost(int refusal, String name, ToLongFunction<FairBoards> on) {
        if (refusal != 0) {
            calls.add(new Call(name, on, LOST + refusal));
        }
    }

    private static String named(String call, int... numbers) {
        StringBuilder name = new StringBuilder(call);
        for (int number : numbers) {
            name.append(' ').append(number);
        }
        return name.toString();
    }

    private void boards() {
        for (int from : COINS) {
            for (int to : COINS) {
                boolean unknown = !isCoin(from) || !isCoin(to) || from == to;
                for (int takes : AMOUNTS) {
                    for (int gives : AMOUNTS) {
                        boolean outside = !isWithin(takes, 1, 99) || !isWithin(gives, 1, 99);
                        refused(first(unknown, outside, false, scene.boards == 12),
                            named("board", from, takes, to, gives), x -> x.board(from, takes, to, gives));
                    }
                }
            }
        }
    }

    private void changes() {
        for (int board : BOARDS) {
            for (int what : WHATS) {
                refused(first(!isBoard(board), !isWithin(what, 0, 8), false, false),
                    named("of", board, what), x -> x.of(board, what));
                for (int v : MANY) {
                    boolean outside = what == 0 ? !isWithin(v, 1, 99) : what != 1 || !isWithin(v, 1, 1000000);
                    refused(first(!isBoard(board), outside, false, false),
                        named("change", board, what, v), x -> x.change(board, what, v));
                }
            }
        }
    }

    private void hours() {
        for (int board : BOARDS) {
            for (int from : AMOUNTS) {
                for (int till : AMOUNTS) {
                    boolean outside = !isWithin(from, 0, 99) || !isWithin(till, 0, 99) || from > till;
                    refused(first(!isBoard(board), outside, false, false),
                        named("hours", board, from, till), x -> x.hours(board, from, till));
                }
            }
        }
    }

    private void settings() {
        for (int which : WHATS) {
            refused(first(false, !isWithin(which, 0, 5), false, false), named("told", which), x -> x.told(which));
            for (int v : new int[] {Integer.MIN_VALUE, -1, 0, 1, 98, 99, 100, Integer.MAX_VALUE}) {
                boolean fits = which == 0 && isWithin(v, 0, 98) || which == 1 && isWithin(v, 0, 99)
                    || which == 2 && isWithin(v, 1, 98);
                refused(first(false, !fits, false, false), named("set", which, v), x -> x.set(which, v));
            }
        }
    }

    private void signs() {
        for (int sign : new int[] {Integer.MIN_VALUE, -1, 0, 32, 33, 49, 126, 127, 305, Integer.MAX_VALUE}) {
            refused(first(false, !isWithin(sign, 33, 126), false, scene.signs == 80),
                named("say", sign), x -> x.say(sign));
        }
        // Here FULL comes behind NO.
        refused(scene.fault ? -5 : scene.boards == 12 ? -4 : 0, "read", FairBoards::read);
    }

    private void rounds() {
        for (int what : WHATS) {
            refused(first(false, !isWithin(what, 0, 1), false, false), named("rounds", what), x -> x.rounds(what));
            refused(first(false, !isWithin(what, 0, 1), false, false), named("best", what), x -> x.best(what));
        }
        for (int board : BOARDS) {
            boolean closed = isBoard(board) && (scene.open >> board & 1) == 0;
            refused(first(!isBoard(board), false, false, false), named("through", board), x -> x.through(board));
            refused(first(!isBoard(board), false, closed, false), named("move", board), x -> x.move(board));
        }
        int gainers = scene.make().rounds(1);
        for (int n : new int[] {Integer.MIN_VALUE, -1, 0, gainers - 1, gainers, gainers + 1, Integer.MAX_VALUE}) {
            boolean unknown = n < 0 || n >= gainers;
            for (int part : WHATS) {
                refused(first(unknown, false, false, false), named("round", n, part), x -> x.round(n, part));
                lost(first(unknown, !isWithin(part, 0, 1), false, false),
                    named("product", n, part), x -> x.product(n, part));
            }
        }
    }

    private void fractions() {
        for (int coin : COINS) {
            for (int other : COINS) {
                boolean unknown = !isCoin(coin) || !isCoin(other);
                for (int part : WHATS) {
                    boolean outside = !isWithin(part, 0, 1);
                    lost(first(unknown, outside, scene.gains, false),
                        named("gets", coin, other, part), x -> x.gets(coin, other, part));
                    for (int end : WHATS) {
                        lost(first(unknown, outside || !isWithin(end, 0, 1), scene.gains, false),
                            named("span", coin, other, end, part), x -> x.span(coin, other, end, part));
                    }
                }
            }
        }
    }

    private void worths() {
        for (int coin : COINS) {
            refused(first(!isCoin(coin), false, scene.gains, false), named("joined", coin), x -> x.joined(coin));
            for (int v : MANY) {
                refused(first(!isCoin(coin), !isWithin(v, 1, 1000000), false, false),
                    named("worth", coin, v), x -> x.worth(coin, v));
            }
        }
        refused(first(false, false, scene.gains, false), "parts", FairBoards::parts);
        for (int what : WHATS) {
            refused(first(false, !isWithin(what, 0, 3), false, false), named("off", what), x -> x.off(what));
        }
    }

    private void walks() {
        for (int from : COINS) {
            for (int to : COINS) {
                boolean unknown = !isCoin(from) || !isCoin(to);
                for (int heap : MANY) {
                    for (int n : WHATS) {
                        boolean outside = !isWithin(heap, 0, 1000000) || !isWithin(n, 0, 5);
                        int i = (heap & 3) - 2;
                        refused(first(unknown, outside, false, false),
                            named("walk", from, heap, to, n, i), x -> x.walk(from, heap, to, n, i));
                    }
                }
            }
        }
        for (int what : BOARDS) {
            refused(first(what != -1 && !isBoard(what), false, false, false),
                named("walkers", what), x -> x.walkers(what));
        }
    }

    /* What they answer is looked at elsewhere; here it is only due to be the same once more. */
    private void tellingCalls() {
        FairBoards twin = scene.make();
        List<ToLongFunction<FairBoards>> telling = new ArrayList<>(List.of(FairBoards::fault, FairBoards::blamed,
            FairBoards::cut, FairBoards::edge, FairBoards::parts));
        for (int one = 0; one < 6; one++) {
            int n = one;
            telling.addAll(List.of(x -> x.of(0, n), x -> x.rounds(n), x -> x.round(0, n - 1), x -> x.product(0, n),
                x -> x.best(n), x -> x.through(n), x -> x.move(n), x -> x.gets(n, 1, 0), x -> x.span(n, 1, 1, 0)));
            telling.addAll(List.of(x -> x.joined(n), x -> x.off(n), x -> x.walk(0, 1000, 1, 5, n - 2),
                x -> x.walkers(n - 1), x -> x.told(n)));
        }
        for (int n = 0; n < telling.size(); n++) {
            calls.add(new Call("telling call " + n, telling.get(n), telling.get(n).applyAsLong(twin)));
        }
    }

    // ---- all is as it was

    private void run() {
        List<Long> before = state(scene.make());
        for (int start = 0; start < calls.size(); start += AT_ONCE) {
            FairBoards x = scene.make();
            int end = Math.min(calls.size(), start + AT_ONCE);
            for (Call call : calls.subList(start, end)) {
                CHECKS.due(call.name, call.on.applyAsLong(x), call.want);
            }
            List<Long> behind = state(x);
            for (int i = 0; i < before.size(); i++) {
                String name = "what is told at " + i + " behind " + calls.get(start).name + " and those that follow it";
                CHECKS.due(name, behind.get(i), before.get(i));
            }
        }
        calls.clear();
    }

    private List<Long> state(FairBoards x) {
        List<Long> told = new ArrayList<>();
        for (int what = 0; what < 6; what++) {
            told.add((long) x.told(what));
        }
        boardsTold(x, told, 0);
        told.addAll(List.of((long) x.rounds(0), (long) x.rounds(1), (long) x.cut(), (long) x.edge(), (long) x.parts()));
        told.addAll(List.of((long) x.walkers(-1), x.product(0, 0), x.gets(0, 1, 0), x.gets(1, 0, 1)));
        told.addAll(List.of((long) x.walk(0, 1000000, 1, 5, -1), (long) x.walk(0, 9, 2, 5, 1)));
        for (int i = 0; i < 4; i++) {
            told.add((long) x.off(i));
            told.add((long) x.round(0, i - 1));
        }
        for (int coin = 0; coin < 8; coin++) {
            told.add((long) x.worth(coin, 1));
        }
        told.add((long) x.fault());
        // What the signs are is seen once they are read, where they make a FAIR.
        int boards = x.told(0);
        told.add((long) x.read());
        boardsTold(x, told, boards);
        told.add((long) x.wipe());
        return told;
    }

    private static void boardsTold(FairBoards x, List<Long> told, int first) {
        for (int board = first; board < x.told(0); board++) {
            for (int what = 0; what < 9; what++) {
                told.add((long) x.of(board, what));
            }
            told.add((long) x.walkers(board));
        }
    }
}
