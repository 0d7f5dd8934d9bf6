/** Boards that change coins: rounds that gain on them, worths of the coins, and walks with a heap. */
public final class FairBoards {
    public static final int NONE = -6, UNKNOWN = -1, OUTSIDE = -2, STATE = -3, FULL = -4, NO = -5;
    public static final long LOST = -1000000000000000000L;

    private static final int COINS = 8;
    private static final int BOARDS = 12;
    private static final int SIGNS = 80;
    private static final int FIRST_SIGN = 33;
    private static final int LAST_SIGN = 126;
    private static final int AMOUNT = 99;
    private static final int LAST_HOUR = 99;
    private static final int MILLION = 1000000;
    private static final int STEPS = 5;

    private static final int FEE = 0;
    private static final int NOW = 1;
    private static final int DROP = 2;
    private static final int[] LEAST_SETTING = {0, 0, 1};
    private static final int[] GREATEST_SETTING = {98, 99, 98};

    /*
     * From one coin on, at each coin one board of those that take it is chosen and the others are done with:
     * twelve boards make 3*3*3*3 = 81 ways at most, ten make 36, eight 18, six 9, four 4, two 2. The rounds of
     * the next least coin have two boards less at least (one that took and one that gave the coin before):
     * 81 + 36 + 18 + 9 + 4 + 2.
     */
    private static final int ROUNDS = 150;

    /* Each walker lowers at least one GIVES that is above 1, and there are 12 of them, of 99 at most. */
    private static final int WALKERS = BOARDS * (AMOUNT - 1);

    /* Euclid's steps on two numbers below 2 to the 63rd are at most 91. */
    private static final int EUCLID_STEPS = 100;

    private final Boards boards;
    private final Signs signs;
    private final Rounds found;
    private final Ways ways;
    private final Heaps heaps;
    private final Walkers sent;
    private final int[] worths;

    public FairBoards() {
        boards = new Boards();
        signs = new Signs();
        found = new Rounds();
        ways = new Ways();
        heaps = new Heaps();
        sent = new Walkers();
        worths = new int[COINS];
        for (int coin = 0; coin < COINS; coin++) {
            worths[coin] = 1;
        }
    }

    // ---- 1 boards

    public int board(int from, int takes, int to, int gives) {
        if (!isCoin(from) || !isCoin(to) || from == to) {
            return UNKNOWN;
        }
        if (!isWithin(takes, 1, AMOUNT) || !isWithin(gives, 1, AMOUNT)) {
            return OUTSIDE;
        }
        if (boards.count >= BOARDS) {
            return FULL;
        }
        forget();
        boards.add(from, takes, to, gives);
        return boards.count - 1;
    }

    public int of(int board, int what) {
        if (!boards.has(board)) {
            return UNKNOWN;
        }
        switch (what) {
            case 0: return boards.from[board];
            case 1: return boards.takes[board];
            case 2: return boards.to[board];
            case 3: return boards.gives[board];
            case 4: return boards.since[board];
            case 5: return boards.till[board];
            case 6: return boards.most[board];
            case 7: return boards.isOpen(board) ? 1 : 0;
            case 8: return boards.upper(board);
            default: return OUTSIDE;
        }
    }

    public int change(int board, int what, int v) {
        if (!boards.has(board)) {
            return UNKNOWN;
        }
        if (!isWithin(what, 0, 1) || !isWithin(v, 1, what == 0 ? AMOUNT : MILLION)) {
            return OUTSIDE;
        }
        forget();
        int[] row = what == 0 ? boards.gives : boards.most;
        int was = row[board];
        row[board] = v;
        return was;
    }

    public int hours(int board, int from, int till) {
        if (!boards.has(board)) {
            return UNKNOWN;
        }
        if (!isWithin(till, 0, LAST_HOUR) || !isWithin(from, 0, till)) {
            return OUTSIDE;
        }
        forget();
        boards.since[board] = from;
        boards.till[board] = till;
        return 1;
    }

    public int set(int which, int v) {
        if (!isWithin(which, FEE, DROP) || !isWithin(v, LEAST_SETTING[which], GREATEST_SETTING[which])) {
            return OUTSIDE;
        }
        forget();
        int was = boards.settings[which];
        boards.settings[which] = v;
        return was;
    }

    public int say(int sign) {
        if (!isWithin(sign, FIRST_SIGN, LAST_SIGN)) {
            return OUTSIDE;
        }
        if (signs.count >= SIGNS) {
            return FULL;
        }
        signs.add(sign);
        return signs.count;
    }

    public int wipe() {
        int were = signs.count;
        signs.count = 0;
        return were;
    }

    public int fault() {
        return signs.faultPlace();
    }

    public int read() {
        if (signs.faultPlace() != NONE) {
            return NO;
        }
        int more = signs.countBoards();
        if (boards.count + more > BOARDS) {
            return FULL;
        }
        forget();
        signs.hangUp(boards, more);
        signs.count = 0;
        return boards.count;
    }

    // ---- 2 rounds

    public int rounds(int what) {
        if (!isWithin(what, 0, 1)) {
            return OUTSIDE;
        }
        lookAround();
        return what == 0 ? found.count : found.gainers;
    }

    public int round(int n, int i) {
        lookAround();
        if (!found.hasGainer(n)) {
            return UNKNOWN;
        }
        int which = found.gaining[n];
        if (i == -1) {
            return found.length(which);
        }
        int board = i >= 0 && i < COINS ? found.boardAt(which, i) : -1;
        return board < 0 ? NONE : board;
    }

    public long product(int n, int part) {
        lookAround();
        if (!found.hasGainer(n)) {
            return LOST + UNKNOWN;
        }
        if (!isWithin(part, 0, 1)) {
            return LOST + OUTSIDE;
        }
        int which = found.gaining[n];
        long upper = found.upper(which, boards.gives, boards.settings[FEE]);
        long lower = found.lower[which];
        return inLowestTerms(part == 0 ? upper : lower, greatestDivisor(upper, lower));
    }

    public int best(int what) {
        if (!isWithin(what, 0, 1)) {
            return OUTSIDE;
        }
        lookAround();
        int which = what == 0 ? found.greatest(boards.gives, boards.settings[FEE]) : found.shortest();
        return found.numberOfGainer(which);
    }

    public int through(int board) {
        if (!boards.has(board)) {
            return UNKNOWN;
        }
        lookAround();
        return found.countThrough(board);
    }

    public int blamed() {
        lookAround();
        return found.commonBits();
    }

    public int cut() {
        lookAround();
        return found.fewestThatHit(boards.openBits());
    }

    public int move(int board) {
        if (!boards.has(board)) {
            return UNKNOWN;
        }
        if (!boards.isOpen(board)) {
            return STATE;
        }
        lookAround();
        return found.leastMove(boards, board);
    }

    public int edge() {
        lookAround();
        for (int fee = LEAST_SETTING[FEE]; fee <= GREATEST_SETTING[FEE]; fee++) {
            if (!found.anyGains(boards.gives, fee)) {
                return fee;
            }
        }
        return NONE;
    }

    // ---- 3 worths

    public long gets(int from, int to, int part) {
        int refusal = refuseFraction(from, to, 0, part);
        if (refusal != 0) {
            return LOST + refusal;
        }
        return partOfBestWay(from, to, part);
    }

    public long span(int coin, int in, int end, int part) {
        int refusal = refuseFraction(coin, in, end, part);
        if (refusal != 0) {
            return LOST + refusal;
        }
        if (end == 0) {
            return partOfBestWay(coin, in, part);
        }
        // Where there is no end it is told as 0 by 1, and that is what part already says.
        boolean endless = partOfBestWay(in, coin, 0) == 0;
        return endless ? part : partOfBestWay(in, coin, 1 - part);
    }

    public int joined(int coin) {
        if (!isCoin(coin)) {
            return UNKNOWN;
        }
        lookAround();
        if (found.gainers > 0) {
            return STATE;
        }
        ways.reachOut(boards);
        return ways.joinedBits(coin);
    }

    public int parts() {
        lookAround();
        if (found.gainers > 0) {
            return STATE;
        }
        ways.reachOut(boards);
        return ways.countSets();
    }

    public int worth(int coin, int v) {
        if (!isCoin(coin)) {
            return UNKNOWN;
        }
        if (!isWithin(v, 1, MILLION)) {
            return OUTSIDE;
        }
        int was = worths[coin];
        worths[coin] = v;
        return was;
    }

    public int off(int what) {
        if (!isWithin(what, 0, 3)) {
            return OUTSIDE;
        }
        int greatest = 0;
        int worst = NONE;
        int erring = 0;
        for (int board = 0; board < boards.count; board++) {
            int excess = boards.isOpen(board) ? excess(board) : 0;
            if (excess > 0) {
                erring |= 1 << board;
            }
            if (excess > greatest) {
                greatest = excess;
                worst = board;
            }
        }
        switch (what) {
            case 0: return greatest;
            case 1: return worst;
            case 2: return erring == 0 ? 1 : 0;
            default: return erring;
        }
    }

    // ---- 4 walks

    public int walk(int from, int heap, int to, int n, int i) {
        if (!isCoin(from) || !isCoin(to)) {
            return UNKNOWN;
        }
        if (!isWithin(heap, 0, MILLION) || !isWithin(n, 0, STEPS)) {
            return OUTSIDE;
        }
        heaps.goAll(boards, from, heap, n);
        int steps = heaps.bestSteps(to, n);
        if (i == -1) {
            return steps < 0 ? 0 : heaps.greatest[steps][to];
        }
        if (i == -2) {
            return steps < 0 ? NONE : steps;
        }
        if (i < 0 || i >= steps) {
            return NONE;
        }
        heaps.lookBack(boards, to, steps);
        return heaps.boardOnWay(boards, from, heap, i);
    }

    public int walkers(int what) {
        if (what != -1 && !boards.has(what)) {
            return UNKNOWN;
        }
        lookAround();
        if (!sent.known) {
            sent.send(boards, found);
        }
        return what == -1 ? sent.went : sent.gives[what];
    }

    public int told(int what) {
        switch (what) {
            case 0: return boards.count;
            case 1: return signs.count;
            case 2: return boards.openBits();
            case 3: return boards.settings[FEE];
            case 4: return boards.settings[NOW];
            case 5: return boards.settings[DROP];
            default: return OUTSIDE;
        }
    }

    // ---- what the calls share

    private static boolean isCoin(int coin) {
        return coin >= 0 && coin < COINS;
    }

    private static boolean isWithin(int v, int least, int greatest) {
        return v >= least && v <= greatest;
    }

    private static int rateUpper(int gives, int fee) {
        return gives - fee < 1 ? 1 : gives - fee;
    }

    private static long greatestDivisor(long a, long b) {
        for (int step = 0; step < EUCLID_STEPS && b != 0; step++) {
            long rest = a % b;
            a = b;
            b = rest;
        }
        return a;
    }

    private static long inLowestTerms(long number, long divisor) {
        return divisor < 1 ? number : number / divisor;
    }

    /* Whole parts first, then what is over turned upside down: cross products would not fit into a long. */
    private static boolean isAbove(long a, long b, long c, long d) {
        boolean turned = false;
        for (int step = 0; step < EUCLID_STEPS && b != 0 && d != 0; step++) {
            long p = a / b;
            long q = c / d;
            if (p != q) {
                return p > q != turned;
            }
            long restOfA = a - p * b;
            long restOfC = c - q * d;
            a = b;
            b = restOfA;
            c = d;
            d = restOfC;
            turned = !turned;
        }
        // A lower number that came down to 0 stands for something without bound.
        return b != d && (b == 0) != turned;
    }

    private void forget() {
        found.known = false;
        sent.known = false;
    }

    private void lookAround() {
        if (!found.known) {
            found.findAll(boards);
        }
    }

    private int refuseFraction(int coin, int other, int end, int part) {
        if (!isCoin(coin) || !isCoin(other)) {
            return UNKNOWN;
        }
        if (!isWithin(end, 0, 1) || !isWithin(part, 0, 1)) {
            return OUTSIDE;
        }
        lookAround();
        return found.gainers > 0 ? STATE : 0;
    }

    private long partOfBestWay(int from, int to, int part) {
        if (!isCoin(from) || !isCoin(to)) {
            return 0;
        }
        ways.spread(boards, from);
        return part == 0 ? ways.upper[to] : ways.lower[to];
    }

    private int excess(int board) {
        return boards.upper(board) * worths[boards.to[board]] - boards.takes[board] * worths[boards.from[board]];
    }

    /** The boards, a row for each thing that is told of them, and what is set for all. */
    static final class Boards {
        final int[] from = new int[BOARDS];
        final int[] takes = new int[BOARDS];
        final int[] to = new int[BOARDS];
        final int[] gives = new int[BOARDS];
        final int[] since = new int[BOARDS];
        final int[] till = new int[BOARDS];
        final int[] most = new int[BOARDS];
        final int[] settings = {0, 0, 1};
        int count = 0;

        boolean has(int board) {
            return board >= 0 && board < count;
        }

        void add(int coin, int taken, int other, int given) {
            if (count >= BOARDS) {
                return;
            }
            from[count] = coin;
            takes[count] = taken;
            to[count] = other;
            gives[count] = given;
            since[count] = 0;
            till[count] = LAST_HOUR;
            most[count] = MILLION;
            count++;
        }

        boolean isOpen(int board) {
            return has(board) && isWithin(settings[NOW], since[board], till[board]);
        }

        int openBits() {
            int bits = 0;
            for (int board = 0; board < count; board++) {
                if (isOpen(board)) {
                    bits |= 1 << board;
                }
            }
            return bits;
        }

        int upper(int board) {
            return has(board) ? rateUpper(gives[board], settings[FEE]) : 1;
        }

        int wholes(int board, int coins) {
            return has(board) && takes[board] > 0 ? Math.min(coins, most[board]) / takes[board] : 0;
        }

        int heapBehind(int board, int heap) {
            return wholes(board, heap) * upper(board);
        }
    }

    /** The signs that were said, and a place in them that goes on as long as they make a FAIR. */
    static final class Signs {
        private final char[] row = new char[SIGNS];
        int count = 0;
        private int place = 0;
        private int amount = 0;
        private int coin = 0;
        private int takes = 0;
        private int from = 0;

        void add(int sign) {
            if (count < SIGNS) {
                row[count] = (char) sign;
                count++;
            }
        }

        int faultPlace() {
            place = 0;
            for (int n = 0; n <= SIGNS; n++) {
                if (!passBoard()) {
                    return place;
                }
                if (place == count) {
                    return NONE;
                }
                if (!passOneOf(';', ';')) {
                    return place;
                }
            }
            return place;
        }

        int countBoards() {
            int n = 1;
            for (int i = 0; i < count; i++) {
                if (row[i] == ';') {
                    n++;
                }
            }
            return n;
        }

        void hangUp(Boards boards, int many) {
            place = 0;
            for (int n = 0; n < many && passBoard(); n++) {
                boards.add(from, takes, coin, amount);
                passOneOf(';', ';');
            }
        }

        private boolean passBoard() {
            if (!passCoins(-1)) {
                return false;
            }
            takes = amount;
            from = coin;
            return passOneOf('>', '>') && passCoins(from);
        }

        private boolean passCoins(int not) {
            if (!passOneOf('1', '9')) {
                return false;
            }
            amount = row[place - 1] - '0';
            if (passOneOf('0', '9')) {
                amount = 10 * amount + row[place - 1] - '0';
            }
            if (place < count && row[place] - 'a' == not) {
                return false;
            }
            if (!passOneOf('a', 'h')) {
                return false;
            }
            coin = row[place - 1] - 'a';
            return true;
        }

        private boolean passOneOf(char first, char last) {
            if (place < 0 || place >= count || row[place] < first || row[place] > last) {
                return false;
            }
            place++;
            return true;
        }
    }

    /** All ROUNDS in their order; a path has four bits a board, its number and 1, the first board lowest. */
    static final class Rounds {
        private final long[] path = new long[ROUNDS];
        final long[] lower = new long[ROUNDS];
        final int[] bits = new int[ROUNDS];
        final int[] gaining = new int[ROUNDS];
        private final int[] tried = new int[BOARDS];
        int count = 0;
        int gainers = 0;
        boolean known = false;

        void findAll(Boards boards) {
            count = 0;
            for (int coin = 0; coin < COINS; coin++) {
                goOn(this, boards, coin, coin, 1 << coin, 0L, 0);
            }
            gainers = 0;
            for (int which = 0; which < count; which++) {
                if (gains(which, boards.gives, boards.settings[FEE])) {
                    gaining[gainers] = which;
                    gainers++;
                }
            }
            known = true;
        }

        private static void goOn(Rounds all, Boards boards, int start, int coin, int seen, long way, int depth) {
            if (depth >= COINS) {
                return;
            }
            for (int board = 0; board < boards.count; board++) {
                if (boards.from[board] != coin || !boards.isOpen(board)) {
                    continue;
                }
                int next = boards.to[board];
                long longer = way | (board + 1L) << (4 * depth);
                if (next == start) {
                    all.keep(boards, longer);
                } else if (next > start && (seen >> next & 1) == 0) {
                    goOn(all, boards, start, next, seen | 1 << next, longer, depth + 1);
                }
            }
        }

        private void keep(Boards boards, long way) {
            if (count >= ROUNDS) {
                return;
            }
            path[count] = way;
            lower[count] = 1;
            bits[count] = 0;
            for (int i = 0; i < COINS; i++) {
                int board = boardAt(count, i);
                if (boards.has(board)) {
                    lower[count] *= boards.takes[board];
                    bits[count] |= 1 << board;
                }
            }
            count++;
        }

        /* -1 behind the last board. */
        int boardAt(int which, int i) {
            return (int) (path[which] >> (4 * i) & 15) - 1;
        }

        int length(int which) {
            return Integer.bitCount(bits[which]);
        }

        long upper(int which, int[] gives, int fee) {
            long product = 1;
            for (int i = 0; i < COINS; i++) {
                int board = boardAt(which, i);
                if (board < 0 || board >= gives.length) {
                    break;
                }
                product *= rateUpper(gives[board], fee);
            }
            return product;
        }

        private boolean gains(int which, int[] gives, int fee) {
            return upper(which, gives, fee) > lower[which];
        }

        boolean anyGains(int[] gives, int fee) {
            for (int which = 0; which < count; which++) {
                if (gains(which, gives, fee)) {
                    return true;
                }
            }
            return false;
        }

        boolean hasGainer(int n) {
            return n >= 0 && n < gainers;
        }

        int numberOfGainer(int which) {
            for (int n = 0; n < gainers; n++) {
                if (gaining[n] == which) {
                    return n;
                }
            }
            return NONE;
        }

        /* -1, if none gains. */
        int greatest(int[] gives, int fee) {
            int first = -1;
            long most = 1;
            long by = 1;
            for (int which = 0; which < count; which++) {
                long product = upper(which, gives, fee);
                if (product > lower[which] && isAbove(product, lower[which], most, by)) {
                    first = which;
                    most = product;
                    by = lower[which];
                }
            }
            return first;
        }

        /* -1, if none gains. */
        int shortest() {
            int first = -1;
            int fewest = COINS + 1;
            for (int n = 0; n < gainers; n++) {
                if (length(gaining[n]) < fewest) {
                    first = gaining[n];
                    fewest = length(first);
                }
            }
            return first;
        }

        int countThrough(int board) {
            int through = 0;
            for (int n = 0; n < gainers; n++) {
                through += bits[gaining[n]] >> board & 1;
            }
            return through;
        }

        int commonBits() {
            int common = gainers == 0 ? 0 : -1;
            for (int n = 0; n < gainers; n++) {
                common &= bits[gaining[n]];
            }
            return common;
        }

        /* A set of the fewest has no board that could stay, so no closed one: all sets may be looked at. */
        int fewestThatHit(int open) {
            int fewest = open;
            for (int set = 0; set < open; set++) {
                if (Integer.bitCount(set) < Integer.bitCount(fewest) && hitsAll(set)) {
                    fewest = set;
                }
            }
            return fewest;
        }

        private boolean hitsAll(int set) {
            for (int n = 0; n < gainers; n++) {
                if ((bits[gaining[n]] & set) == 0) {
                    return false;
                }
            }
            return true;
        }

        int leastMove(Boards boards, int board) {
            if (!boards.has(board)) {
                return NONE;
            }
            System.arraycopy(boards.gives, 0, tried, 0, BOARDS);
            for (int by = 0; by < boards.gives[board]; by++) {
                tried[board] = boards.gives[board] - by;
                if (!anyGains(tried, boards.settings[FEE])) {
                    return by;
                }
            }
            return NONE;
        }
    }

    /** What coins get of one another; right only while no round gains. */
    static final class Ways {
        final long[] upper = new long[COINS];
        final long[] lower = new long[COINS];
        private final int[] reach = new int[COINS];

        /*
         * As no round gains, a way that comes back to a coin is never better than the one that was there:
         * what is kept has no coin twice, and seven passes find the best of them.
         */
        void spread(Boards boards, int start) {
            for (int coin = 0; coin < COINS; coin++) {
                upper[coin] = coin == start ? 1 : 0;
                lower[coin] = 1;
            }
            for (int pass = 1; pass < COINS; pass++) {
                for (int board = 0; board < boards.count; board++) {
                    if (boards.isOpen(board)) {
                        goOver(boards, board);
                    }
                }
            }
        }

        private void goOver(Boards boards, int board) {
            int here = boards.from[board];
            int there = boards.to[board];
            long more = upper[here] * boards.upper(board);
            long by = lower[here] * boards.takes[board];
            if (isAbove(more, by, upper[there], lower[there])) {
                long divisor = greatestDivisor(more, by);
                upper[there] = inLowestTerms(more, divisor);
                lower[there] = inLowestTerms(by, divisor);
            }
        }

        void reachOut(Boards boards) {
            for (int coin = 0; coin < COINS; coin++) {
                reach[coin] = 1 << coin;
            }
            for (int pass = 1; pass < COINS; pass++) {
                for (int board = 0; board < boards.count; board++) {
                    if (boards.isOpen(board)) {
                        reach[boards.from[board]] |= reach[boards.to[board]];
                    }
                }
            }
        }

        int joinedBits(int coin) {
            int joined = 0;
            for (int other = 0; other < COINS; other++) {
                if ((reach[coin] >> other & 1) == 1 && (reach[other] >> coin & 1) == 1) {
                    joined |= 1 << other;
                }
            }
            return joined;
        }

        int countSets() {
            int sets = 0;
            for (int coin = 0; coin < COINS; coin++) {
                // Each set is counted at its least coin.
                if (Integer.lowestOneBit(joinedBits(coin)) == 1 << coin) {
                    sets++;
                }
            }
            return sets;
        }
    }

    /** Heaps by boards gone and coin: the greatest ones, and the least ones that still end as well as can be. */
    static final class Heaps {
        /* Above every heap: those are 1000000 times 99 at most. */
        private static final int NEVER = 1000000000;

        final int[][] greatest = new int[STEPS + 1][COINS];
        private final int[][] needed = new int[STEPS + 1][COINS];

        /* -1 where no way comes. More coins never get fewer, so the greatest heap of each coin is enough. */
        void goAll(Boards boards, int from, int heap, int n) {
            for (int steps = 0; steps <= n && steps <= STEPS; steps++) {
                for (int coin = 0; coin < COINS; coin++) {
                    greatest[steps][coin] = steps == 0 && coin == from ? heap : -1;
                }
                for (int board = 0; steps > 0 && board < boards.count; board++) {
                    int before = greatest[steps - 1][boards.from[board]];
                    int there = boards.to[board];
                    if (before >= 0 && boards.isOpen(board)) {
                        greatest[steps][there] = Math.max(greatest[steps][there], boards.heapBehind(board, before));
                    }
                }
            }
        }

        /* -1, if there is no way. */
        int bestSteps(int to, int n) {
            int best = -1;
            int most = -1;
            for (int steps = 0; steps <= n && steps <= STEPS; steps++) {
                if (greatest[steps][to] > most) {
                    most = greatest[steps][to];
                    best = steps;
                }
            }
            return best;
        }

        void lookBack(Boards boards, int to, int last) {
            if (last < 0 || last > STEPS) {
                return;
            }
            for (int steps = last; steps >= 0; steps--) {
                for (int coin = 0; coin < COINS; coin++) {
                    needed[steps][coin] = steps == last && coin == to ? greatest[last][to] : NEVER;
                }
                for (int board = 0; steps < last && board < boards.count; board++) {
                    int here = boards.from[board];
                    if (boards.isOpen(board)) {
                        int least = neededAhead(boards, board, needed[steps + 1][boards.to[board]]);
                        needed[steps][here] = Math.min(needed[steps][here], least);
                    }
                }
            }
        }

        private static int neededAhead(Boards boards, int board, int behind) {
            int upper = boards.upper(board);
            if (behind == NEVER || upper < 1) {
                return NEVER;
            }
            int wholes = behind / upper + (behind % upper == 0 ? 0 : 1);
            return wholes > boards.wholes(board, MILLION) ? NEVER : wholes * boards.takes[board];
        }

        int boardOnWay(Boards boards, int from, int heap, int i) {
            int coin = from;
            int left = heap;
            int board = NONE;
            for (int step = 0; step <= i && step < STEPS; step++) {
                board = firstThatDoes(boards, coin, left, step);
                if (board < 0) {
                    return NONE;
                }
                left = boards.heapBehind(board, left);
                coin = boards.to[board];
            }
            return board;
        }

        private int firstThatDoes(Boards boards, int coin, int heap, int step) {
            for (int board = 0; board < boards.count; board++) {
                if (boards.from[board] == coin && boards.isOpen(board)
                        && boards.heapBehind(board, heap) >= needed[step + 1][boards.to[board]]) {
                    return board;
                }
            }
            return NONE;
        }
    }

    /** Walkers who go one after another, on GIVES of their own. */
    static final class Walkers {
        final int[] gives = new int[BOARDS];
        int went = 0;
        boolean known = false;

        void send(Boards boards, Rounds rounds) {
            System.arraycopy(boards.gives, 0, gives, 0, BOARDS);
            went = 0;
            for (int walker = 0; walker < WALKERS; walker++) {
                int which = rounds.greatest(gives, boards.settings[FEE]);
                if (which < 0) {
                    break;
                }
                wearOut(rounds.bits[which], boards.settings[DROP]);
                went++;
            }
            known = true;
        }

        private void wearOut(int used, int drop) {
            for (int board = 0; board < BOARDS; board++) {
                if ((used >> board & 1) == 1) {
                    gives[board] = Math.max(1, gives[board] - drop);
                }
            }
        }
    }
}
