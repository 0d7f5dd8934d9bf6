import java.math.BigInteger;
import java.util.ArrayList;
import java.util.Arrays;
import java.util.List;
import java.util.regex.Pattern;

/**
 * The document once more, word by word and without any short cut: every set of boards, every sequence of boards,
 * fractions of any size. Only its answers to calls that are not refused by a plain look at their numbers.
 */
final class SlowModel {
    private static final Pattern FAIR = Pattern.compile("(B;)*B".replace("B", board()));
    private static final String[] REST = {"1a>1b", "1b>1a"};

    /** One board: coin taken, takes, coin given, gives, from, till, most. */
    final List<int[]> boards = new ArrayList<>();
    final int[] worths = {1, 1, 1, 1, 1, 1, 1, 1};
    final StringBuilder signs = new StringBuilder();
    int fee = 0;
    int now = 0;
    int drop = 1;

    private static String board() {
        StringBuilder any = new StringBuilder("(");
        for (char letter = 'a'; letter <= 'h'; letter++) {
            any.append(letter == 'a' ? "" : "|").append("[1-9][0-9]?").append(letter).append(">[1-9][0-9]?");
            any.append('[').append("abcdefgh".replace("" + letter, "")).append(']');
        }
        return any.append(")").toString();
    }

    boolean isOpen(int board) {
        return boards.get(board)[4] <= now && now <= boards.get(board)[5];
    }

    int openBits() {
        int bits = 0;
        for (int board = 0; board < boards.size(); board++) {
            bits += isOpen(board) ? 1 << board : 0;
        }
        return bits;
    }

    int upper(int board) {
        return Math.max(1, boards.get(board)[3] - fee);
    }

    // ---- the fault

    static boolean isFair(String text) {
        return FAIR.matcher(text).matches();
    }

    private static boolean canGoOn(String text) {
        for (String rest : REST) {
            for (int i = 0; i <= rest.length(); i++) {
                if (isFair(text + rest.substring(i))) {
                    return true;
                }
            }
        }
        return false;
    }

    int fault() {
        String text = signs.toString();
        if (isFair(text)) {
            return FairBoards.NONE;
        }
        int place = 0;
        while (place < text.length() && canGoOn(text.substring(0, place + 1))) {
            place++;
        }
        return place;
    }

    int read() {
        if (fault() != FairBoards.NONE) {
            return FairBoards.NO;
        }
        String[] told = signs.toString().split(";");
        if (told.length + boards.size() > 12) {
            return FairBoards.FULL;
        }
        for (String one : told) {
            String[] sides = one.split(">");
            boards.add(new int[] {coin(sides[0]), amount(sides[0]), coin(sides[1]), amount(sides[1]), 0, 99, 1000000});
        }
        signs.setLength(0);
        return boards.size();
    }

    private static int coin(String side) {
        return side.charAt(side.length() - 1) - 'a';
    }

    private static int amount(String side) {
        return Integer.parseInt(side.substring(0, side.length() - 1));
    }

    // ---- rounds

    /** Every ordered row of open boards that is a round, then sorted as told. */
    List<int[]> rounds() {
        List<int[]> all = new ArrayList<>();
        List<Integer> row = new ArrayList<>();
        for (int board = 0; board < boards.size(); board++) {
            if (isOpen(board)) {
                row.add(board);
                grow(row, all);
                row.remove(0);
            }
        }
        all.sort((one, other) -> {
            int byCoin = Integer.compare(boards.get(one[0])[0], boards.get(other[0])[0]);
            return byCoin != 0 ? byCoin : Arrays.compare(one, other);
        });
        return all;
    }

    private void grow(List<Integer> row, List<int[]> all) {
        int given = boards.get(row.get(row.size() - 1))[2];
        int first = boards.get(row.get(0))[0];
        if (given == first) {
            boolean least = row.stream().allMatch(board -> boards.get(board)[0] >= first);
            if (least) {
                all.add(row.stream().mapToInt(board -> board).toArray());
            }
            return;
        }
        if (row.stream().anyMatch(board -> boards.get(board)[0] == given)) {
            return;
        }
        for (int board = 0; board < boards.size(); board++) {
            if (isOpen(board) && boards.get(board)[0] == given) {
                row.add(board);
                grow(row, all);
                row.remove(row.size() - 1);
            }
        }
    }

    Part product(int[] row) {
        Part product = Part.of(1, 1);
        for (int board : row) {
            product = product.times(Part.of(upper(board), boards.get(board)[1]));
        }
        return product;
    }

    List<int[]> gaining() {
        List<int[]> gaining = new ArrayList<>();
        for (int[] row : rounds()) {
            if (product(row).compareTo(Part.of(1, 1)) > 0) {
                gaining.add(row);
            }
        }
        return gaining;
    }

    int best(int what) {
        List<int[]> gaining = gaining();
        int best = FairBoards.NONE;
        for (int n = 0; n < gaining.size(); n++) {
            boolean better = best < 0 || (what == 0
                ? product(gaining.get(n)).compareTo(product(gaining.get(best))) > 0
                : gaining.get(n).length < gaining.get(best).length);
            best = better ? n : best;
        }
        return best;
    }

    int through(int board) {
        int through = 0;
        for (int[] row : gaining()) {
            for (int one : row) {
                through += one == board ? 1 : 0;
            }
        }
        return through;
    }

    int blamed() {
        int many = gaining().size();
        int bits = 0;
        for (int board = 0; board < boards.size(); board++) {
            bits += many > 0 && through(board) == many ? 1 << board : 0;
        }
        return bits;
    }

    int cut() {
        List<Integer> sets = new ArrayList<>();
        for (int set = 0; set < 1 << boards.size(); set++) {
            if ((set & openBits()) == set) {
                sets.add(set);
            }
        }
        sets.sort((one, other) -> {
            int bySize = Integer.compare(Integer.bitCount(one), Integer.bitCount(other));
            return bySize != 0 ? bySize : Integer.compare(one, other);
        });
        List<int[]> gaining = gaining();
        for (int set : sets) {
            if (gaining.stream().allMatch(row -> Arrays.stream(row).anyMatch(board -> (set >> board & 1) == 1))) {
                return set;
            }
        }
        throw new IllegalStateException();
    }

    int move(int board) {
        if (!isOpen(board)) {
            return FairBoards.STATE;
        }
        int gives = boards.get(board)[3];
        int least = FairBoards.NONE;
        for (int left = gives; left >= 1 && least == FairBoards.NONE; left--) {
            boards.get(board)[3] = left;
            least = gaining().isEmpty() ? gives - left : least;
        }
        boards.get(board)[3] = gives;
        return least;
    }

    int edge() {
        int was = fee;
        int edge = FairBoards.NONE;
        for (fee = 0; fee <= 98 && edge == FairBoards.NONE; fee++) {
            edge = gaining().isEmpty() ? fee : edge;
        }
        fee = was;
        return edge;
    }

    // ---- worths

    Part gets(int from, int to) {
        return from == to ? Part.of(1, 1) : bestWay(from, to, 1 << from);
    }

    private Part bestWay(int coin, int to, int seen) {
        if (coin == to) {
            return Part.of(1, 1);
        }
        Part best = Part.of(0, 1);
        for (int board = 0; board < boards.size(); board++) {
            int next = boards.get(board)[2];
            if (isOpen(board) && boards.get(board)[0] == coin && (seen >> next & 1) == 0) {
                Part way = Part.of(upper(board), boards.get(board)[1]).times(bestWay(next, to, seen | 1 << next));
                best = way.compareTo(best) > 0 ? way : best;
            }
        }
        return best;
    }

    int joined(int coin) {
        int bits = 0;
        for (int other = 0; other < 8; other++) {
            boolean both = gets(coin, other).upper.signum() > 0 && gets(other, coin).upper.signum() > 0;
            bits += both ? 1 << other : 0;
        }
        return bits;
    }

    int parts() {
        List<Integer> sets = new ArrayList<>();
        for (int coin = 0; coin < 8; coin++) {
            if (!sets.contains(joined(coin))) {
                sets.add(joined(coin));
            }
        }
        return sets.size();
    }

    int off(int what) {
        int greatest = 0;
        int bits = 0;
        int first = FairBoards.NONE;
        for (int board = boards.size() - 1; board >= 0; board--) {
            int[] one = boards.get(board);
            int excess = upper(board) * worths[one[2]] - one[1] * worths[one[0]];
            if (isOpen(board) && excess > 0) {
                bits += 1 << board;
                first = excess >= greatest ? board : first;
                greatest = Math.max(excess, greatest);
            }
        }
        return new int[] {greatest, first, bits == 0 ? 1 : 0, bits}[what];
    }

    // ---- walks

    /** The heap and the boards of the best walk; null: there is no way. */
    List<Integer> walk(int from, int heap, int to, int n) {
        List<List<Integer>> ends = new ArrayList<>();
        go(from, heap, to, n, new ArrayList<>(), ends);
        if (ends.isEmpty()) {
            return null;
        }
        ends.sort((one, other) -> {
            if (!one.get(0).equals(other.get(0))) {
                return Integer.compare(other.get(0), one.get(0));
            }
            if (one.size() != other.size()) {
                return Integer.compare(one.size(), other.size());
            }
            for (int i = 1; i < one.size(); i++) {
                if (!one.get(i).equals(other.get(i))) {
                    return Integer.compare(one.get(i), other.get(i));
                }
            }
            return 0;
        });
        return ends.get(0);
    }

    private void go(int coin, int heap, int to, int left, List<Integer> way, List<List<Integer>> ends) {
        if (coin == to) {
            List<Integer> end = new ArrayList<>(way);
            end.add(0, heap);
            ends.add(end);
        }
        for (int board = 0; left > 0 && board < boards.size(); board++) {
            int[] one = boards.get(board);
            if (isOpen(board) && one[0] == coin) {
                way.add(board);
                go(one[2], Math.min(heap, one[6]) / one[1] * upper(board), to, left - 1, way, ends);
                way.remove(way.size() - 1);
            }
        }
    }

    /** How many went, then GIVES of each board. */
    int[] walkers() {
        int[] were = boards.stream().mapToInt(board -> board[3]).toArray();
        int[] told = new int[boards.size() + 1];
        for (int most = best(0); most >= 0; most = best(0)) {
            for (int board : gaining().get(most)) {
                boards.get(board)[3] = Math.max(1, boards.get(board)[3] - drop);
            }
            told[0]++;
        }
        for (int board = 0; board < were.length; board++) {
            told[board + 1] = boards.get(board)[3];
            boards.get(board)[3] = were[board];
        }
        return told;
    }

    /** A fraction in lowest terms. */
    static final class Part implements Comparable<Part> {
        final BigInteger upper;
        final BigInteger lower;

        private Part(BigInteger upper, BigInteger lower) {
            BigInteger divisor = upper.gcd(lower);
            this.upper = upper.divide(divisor);
            this.lower = lower.divide(divisor);
        }

        static Part of(long upper, long lower) {
            return new Part(BigInteger.valueOf(upper), BigInteger.valueOf(lower));
        }

        Part times(Part other) {
            return new Part(upper.multiply(other.upper), lower.multiply(other.lower));
        }

        long tell(int part) {
            return (part == 0 ? upper : lower).longValueExact();
        }

        /** 1 by it; 0 by 1, where that is nothing. */
        Part turned() {
            return upper.signum() == 0 ? this : new Part(lower, upper);
        }

        @Override
        public int compareTo(Part other) {
            return upper.multiply(other.lower).compareTo(other.upper.multiply(lower));
        }
    }
}
