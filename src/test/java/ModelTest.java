import java.util.List;
import java.util.Random;

/** Runs of calls by a fixed seed, each answer compared with the slow model's. */
final class ModelTest {
    private static final int RUNS = 700;
    /* An object is used for 512 calls, and the last looks take some forty. */
    private static final int LAST_LOOK = 450;
    private static final long LOST = FairBoards.LOST;

    private final Checks checks;
    private final Random random;
    private final int coins;
    private final int amounts;
    private final FairBoards x = new FairBoards();
    private final SlowModel model = new SlowModel();
    private int calls = 0;

    private ModelTest(Checks checks, int seed) {
        this.checks = checks;
        random = new Random(seed);
        coins = 2 + random.nextInt(7);
        amounts = random.nextBoolean() ? 2 + random.nextInt(6) : 99;
    }

    public static void main(String[] args) {
        Checks checks = new Checks("ModelTest");
        int runs = args.length > 0 ? Integer.parseInt(args[0]) : RUNS;
        for (int seed = 0; seed < runs && checks.clean(); seed++) {
            new ModelTest(checks, seed).run(seed);
        }
        checks.end();
    }

    private void due(String call, long got, long want) {
        calls++;
        checks.due(call, got, want);
    }

    private int upTo(int bound) {
        return random.nextInt(bound);
    }

    private void run(int seed) {
        if (seed % 5 == 0) {
            ring();
        }
        while (calls < LAST_LOOK && checks.clean()) {
            if (upTo(3) > 0 || model.boards.size() < 3) {
                alter();
            } else {
                look();
            }
        }
        look();
    }

    /* All eight coins, so that products grow as long as they can. */
    private void ring() {
        for (int coin = 0; coin < 8; coin++) {
            board(coin, 80 + upTo(20), (coin + 1) % 8, 80 + upTo(20));
        }
        for (int more = 0; more < 4; more++) {
            int coin = upTo(8);
            board(coin, 80 + upTo(20), (coin + 1) % 8, 80 + upTo(20));
        }
    }

    // ---- calls that change something

    private void alter() {
        switch (upTo(9)) {
            case 0: case 1: case 2: board(upTo(coins), 1 + upTo(amounts), upTo(coins), 1 + upTo(amounts)); break;
            case 3: change(); break;
            case 4: hours(); break;
            case 5: set(); break;
            case 6: worth(); break;
            case 7: text(); break;
            default: if (upTo(3) == 0) { wipe(); } break;
        }
    }

    private void board(int from, int takes, int to, int gives) {
        int want = model.boards.size();
        if (from == to) {
            want = -1;
        } else if (want == 12) {
            want = -4;
        } else {
            model.boards.add(new int[] {from, takes, to, gives, 0, 99, 1000000});
        }
        due("board", x.board(from, takes, to, gives), want);
    }

    private void change() {
        int board = upTo(12);
        int what = upTo(2);
        int v = what == 0 ? 1 + upTo(amounts) : upTo(3) == 0 ? 1000000 : 1 + upTo(300);
        int want = -1;
        if (board < model.boards.size()) {
            want = model.boards.get(board)[what == 0 ? 3 : 6];
            model.boards.get(board)[what == 0 ? 3 : 6] = v;
        }
        due("change(" + board + ", " + what + ", " + v + ")", x.change(board, what, v), want);
    }

    private void hours() {
        int board = upTo(12);
        int from = upTo(4) == 0 ? upTo(4) : 0;
        int till = upTo(4) == 0 ? upTo(4) : 99;
        int want = board >= model.boards.size() ? -1 : from > till ? -2 : 1;
        if (want == 1) {
            model.boards.get(board)[4] = from;
            model.boards.get(board)[5] = till;
        }
        due("hours(" + board + ", " + from + ", " + till + ")", x.hours(board, from, till), want);
    }

    private void set() {
        int which = upTo(3);
        int v = upTo(4);
        int want = which == 0 ? model.fee : which == 1 ? model.now : model.drop;
        if (which == 2 && v == 0) {
            want = -2;
        } else if (which == 0) {
            v = upTo(3) == 0 ? upTo(Math.min(amounts, 99)) : 0;
            model.fee = v;
        } else if (which == 1) {
            model.now = v;
        } else {
            model.drop = v;
        }
        due("set(" + which + ", " + v + ")", x.set(which, v), want);
    }

    private void worth() {
        int coin = upTo(8);
        int v = 1 + upTo(upTo(4) == 0 ? 1000000 : 20);
        due("worth(" + coin + ", " + v + ")", x.worth(coin, v), model.worths[coin]);
        model.worths[coin] = v;
    }

    private void text() {
        int many = 1 + upTo(2);
        for (int n = 0; n < many; n++) {
            int from = upTo(coins);
            say((n > 0 ? ";" : "") + (1 + upTo(amounts)) + (char) ('a' + from) + ">" + (1 + upTo(amounts))
                + (char) ('a' + (from + 1 + upTo(coins - 1)) % coins));
            if (upTo(4) == 0) {
                say("" + "019ahi>;<".charAt(upTo(9)));
            }
            due("fault() of " + model.signs, x.fault(), model.fault());
        }
        due("read() of " + model.signs, x.read(), model.read());
        due("told(1)", x.told(1), model.signs.length());
        due("told(0)", x.told(0), model.boards.size());
        if (upTo(2) == 0) {
            wipe();
        }
    }

    private void say(String text) {
        for (int i = 0; i < text.length(); i++) {
            int want = -4;
            if (model.signs.length() < 80) {
                model.signs.append(text.charAt(i));
                want = model.signs.length();
            }
            due("say", x.say(text.charAt(i)), want);
        }
    }

    private void wipe() {
        due("wipe()", x.wipe(), model.signs.length());
        model.signs.setLength(0);
    }

    // ---- calls that only tell

    private void look() {
        switch (upTo(4)) {
            case 0: lookAtBoards(); break;
            case 1: lookAtRounds(); break;
            case 2: lookAtWorths(); break;
            default: lookAtWalks(); break;
        }
    }

    private void lookAtBoards() {
        int board = upTo(model.boards.size());
        for (int what = 0; what < 9; what++) {
            int want = what < 7 ? model.boards.get(board)[what] : what == 8 ? model.upper(board) : model.isOpen(board) ? 1 : 0;
            due("of(" + board + ", " + what + ")", x.of(board, what), want);
        }
        int[] told = {model.boards.size(), model.signs.length(), model.openBits(), model.fee, model.now, model.drop};
        for (int what = 0; what < told.length; what++) {
            due("told(" + what + ")", x.told(what), told[what]);
        }
    }

    private void lookAtRounds() {
        List<int[]> gaining = model.gaining();
        due("rounds(0)", x.rounds(0), model.rounds().size());
        due("rounds(1)", x.rounds(1), gaining.size());
        for (int look = 0; look < 6; look++) {
            int n = upTo(gaining.size() + 1);
            int i = upTo(10) - 1;
            int want = -1;
            if (n < gaining.size()) {
                int[] row = gaining.get(n);
                want = i == -1 ? row.length : i < row.length ? row[i] : FairBoards.NONE;
                due("product(" + n + ", 0)", x.product(n, 0), model.product(row).tell(0));
                due("product(" + n + ", 1)", x.product(n, 1), model.product(row).tell(1));
            }
            due("round(" + n + ", " + i + ")", x.round(n, i), want);
        }
        due("best(0)", x.best(0), model.best(0));
        due("best(1)", x.best(1), model.best(1));
        int board = upTo(model.boards.size());
        due("through(" + board + ")", x.through(board), model.through(board));
        due("move(" + board + ")", x.move(board), model.move(board));
        due("blamed()", x.blamed(), model.blamed());
        due("cut()", x.cut(), model.cut());
        due("edge()", x.edge(), model.edge());
    }

    private void lookAtWorths() {
        for (int what = 0; what < 4; what++) {
            due("off(" + what + ")", x.off(what), model.off(what));
        }
        boolean gains = !model.gaining().isEmpty();
        int coin = upTo(8);
        due("joined(" + coin + ")", x.joined(coin), gains ? -3 : model.joined(coin));
        due("parts()", x.parts(), gains ? -3 : model.parts());
        for (int look = 0; look < 4; look++) {
            int from = upTo(coins);
            int to = upTo(coins);
            int part = upTo(2);
            due("gets", x.gets(from, to, part), gains ? LOST - 3 : model.gets(from, to).tell(part));
            due("span 0", x.span(from, to, 0, part), gains ? LOST - 3 : model.gets(from, to).tell(part));
            due("span 1", x.span(from, to, 1, part), gains ? LOST - 3 : model.gets(to, from).turned().tell(part));
        }
    }

    private void lookAtWalks() {
        int from = upTo(coins);
        int to = upTo(coins);
        int n = upTo(6);
        int heap = upTo(4) == 0 ? upTo(1000001) : upTo(60);
        List<Integer> way = model.walk(from, heap, to, n);
        String call = "walk(" + from + ", " + heap + ", " + to + ", " + n + ", ";
        due(call + "-1)", x.walk(from, heap, to, n, -1), way == null ? 0 : way.get(0));
        due(call + "-2)", x.walk(from, heap, to, n, -2), way == null ? FairBoards.NONE : way.size() - 1);
        for (int i = 0; i < 6; i++) {
            int want = way == null || i + 1 >= way.size() ? FairBoards.NONE : way.get(i + 1);
            due(call + i + ")", x.walk(from, heap, to, n, i), want);
        }
        int[] told = model.walkers();
        for (int what = -1; what < model.boards.size(); what++) {
            due("walkers(" + what + ")", x.walkers(what), told[what + 1]);
        }
    }
}
