import java.util.ArrayList;
import java.util.Arrays;
import java.util.List;

/**
 * The document once more, written for plainness alone: whole stands are copied, the past is a list of them, and a
 * board is solved by going over all its stands until nothing changes. RandomRunsTest sets KingTable against it.
 */
final class Model {
    private static final int[] DOWN = {-1, 0, 1, 0};
    private static final int[] ASIDE = {0, 1, 0, -1};

    /** A stand: where each piece is (-1: taken), and the turn behind them. */
    private record Move(int piece, int way, int far, int[] stand, List<Integer> taken) { }

    private int lines = 3;
    private int width = 3;
    private int[][] told = new int[3][3];
    private int goal = 0;
    private int hard = 4;
    private boolean kingTakes = true;
    private int reach = 0;
    private int comeback = 0;

    private int state = 0;
    private int[] kinds = new int[0];
    private int[] first;
    private final List<Move> done = new ArrayList<>();
    private final List<Move> undone = new ArrayList<>();

    private boolean solved = false;
    private int[] worths;
    private int[] deeps;

    boolean board(int newLines, int newWidth) {
        if (newLines < 2 || newLines > 9 || newWidth < 2 || newWidth > 9) {
            return false;
        }
        lines = newLines;
        width = newWidth;
        told = new int[lines][width];
        noPlay();
        return true;
    }

    boolean line(int r, int n, int v) {
        if (state != 0 || r < 0 || r >= lines || n < 0 || n > width) {
            return false;
        }
        told[r] = new int[width];
        long rest = v & 0xffffffffL;
        for (int c = 0; c < n; c++) {
            told[r][c] = (int) (rest % 8);
            rest /= 8;
        }
        return true;
    }

    boolean law(int newGoal, int newHard, boolean takes, int newReach, int newComeback) {
        if (state != 0 || newGoal < 0 || newGoal > 1 || newHard != 2 && newHard != 4
            || newReach < 0 || newReach > 8 || newComeback < 0 || newComeback > 1) {
            return false;
        }
        goal = newGoal;
        hard = newHard;
        kingTakes = takes;
        reach = newReach;
        comeback = newComeback;
        return true;
    }

    int begin(int side) {
        if (state != 0 || side < 0 || side > 1) {
            return -1;
        }
        List<Integer> pieces = new ArrayList<>();
        List<Integer> fields = new ArrayList<>();
        int kings = 0;
        int thrones = 0;
        int raiders = 0;
        for (int f = 0; f < lines * width; f++) {
            int sign = told[f / width][f % width];
            thrones += sign == 5 || sign == 7 ? 1 : 0;
            kings += sign == 2 || sign == 7 ? 1 : 0;
            raiders += sign == 3 || sign == 4 ? 1 : 0;
            if (sign != 0 && sign != 5 && sign != 6) {
                pieces.add(sign == 7 ? 2 : sign);
                fields.add(f);
            }
        }
        if (kings != 1 || raiders == 0 || thrones > 1 || pieces.size() > 40) {
            return -1;
        }
        kinds = pieces.stream().mapToInt(Integer::intValue).toArray();
        first = Arrays.copyOf(fields.stream().mapToInt(Integer::intValue).toArray(), kinds.length + 1);
        first[kinds.length] = side;
        int winner = winnerOf(first);
        state = winner >= 0 ? 2 + winner : 1;
        return kinds.length;
    }

    boolean stop() {
        boolean was = state != 0;
        noPlay();
        return was;
    }

    private void noPlay() {
        state = 0;
        kinds = new int[0];
        first = null;
        done.clear();
        undone.clear();
        solved = false;
    }

    private int[] now() {
        return done.isEmpty() ? first : done.get(done.size() - 1).stand();
    }

    private int sideOf(int piece) {
        return kinds[piece] <= 2 ? 0 : 1;
    }

    private boolean takes(int piece) {
        return kinds[piece] != 2 || kingTakes;
    }

    private int signOf(int f) {
        return told[f / width][f % width];
    }

    private boolean isThrone(int f) {
        return signOf(f) == 5 || signOf(f) == 7;
    }

    private boolean isGoal(int f) {
        int r = f / width;
        int c = f % width;
        return goal == 0 ? signOf(f) == 6 : r % (lines - 1) == 0 || c % (width - 1) == 0;
    }

    private boolean bears(int f, int piece) {
        return kinds[piece] == 2 || !isThrone(f) && signOf(f) != 6;
    }

    private int steps(int f, int way, long far) {
        long r = f / width + DOWN[way] * far;
        long c = f % width + ASIDE[way] * far;
        return r < 0 || r >= lines || c < 0 || c >= width ? -1 : (int) (r * width + c);
    }

    private int pieceOn(int[] stand, int f) {
        for (int p = 0; f >= 0 && p < kinds.length; p++) {
            if (stand[p] == f) {
                return p;
            }
        }
        return -1;
    }

    /** What why() tells, but for AGAIN. */
    private int hindrance(int[] stand, int piece, int way, int far) {
        if (stand[piece] < 0) {
            return 3;
        }
        if (sideOf(piece) != stand[kinds.length]) {
            return 4;
        }
        if (way < 0 || way > 3 || far < 1) {
            return 5;
        }
        if (steps(stand[piece], way, far) < 0) {
            return 6;
        }
        if (kinds[piece] == 2 && reach != 0 && far > reach) {
            return 7;
        }
        for (int i = 1; i <= far; i++) {
            int f = steps(stand[piece], way, i);
            if (pieceOn(stand, f) >= 0) {
                return 8;
            }
            if (!bears(f, piece)) {
                return 9;
            }
        }
        return 0;
    }

    private boolean isFoe(int[] stand, int f, int side) {
        if (f < 0) {
            return false;
        }
        int p = pieceOn(stand, f);
        return p < 0 ? signOf(f) == 6 : sideOf(p) == side && takes(p);
    }

    private Move moved(int[] stand, int piece, int way, int far) {
        int[] next = stand.clone();
        next[piece] = steps(stand[piece], way, far);
        List<Integer> taken = new ArrayList<>();
        for (int q = 0; q < kinds.length; q++) {
            if (sideOf(q) != sideOf(piece) && next[q] >= 0 && takes(piece) && isCaught(next, q, next[piece], sideOf(piece))) {
                taken.add(q);
            }
        }
        for (int q : taken) {
            next[q] = -1;
        }
        next[kinds.length] = 1 - next[kinds.length];
        return new Move(piece, way, far, next, taken);
    }

    private boolean isCaught(int[] stand, int q, int comer, int side) {
        int foes = 0;
        boolean pressed = false;
        boolean beside = false;
        for (int way = 0; way < 4; way++) {
            int f = steps(stand[q], way, 1);
            foes += isFoe(stand, f, side) ? 1 : 0;
            if (f == comer) {
                beside = true;
                pressed = isFoe(stand, steps(stand[q], (way + 2) % 4, 1), side);
            }
        }
        boolean four = kinds[q] == 4 || kinds[q] == 2 && hard == 4;
        return beside && (four ? foes == 4 : pressed);
    }

    private int king() {
        for (int p = 0; p < kinds.length; p++) {
            if (kinds[p] == 2) {
                return p;
            }
        }
        return -1;
    }

    private int freeMoves(int[] stand, int piece) {
        int n = 0;
        for (int move = 0; move < 32; move++) {
            n += hindrance(stand, piece, move / 8, move % 8 + 1) == 0 ? 1 : 0;
        }
        return n;
    }

    private int winnerOf(int[] stand) {
        if (stand[king()] < 0) {
            return 1;
        }
        if (isGoal(stand[king()])) {
            return 0;
        }
        for (int p = 0; p < kinds.length; p++) {
            if (freeMoves(stand, p) > 0) {
                return -1;
            }
        }
        return 1 - stand[kinds.length];
    }

    private boolean wasThere(int[] stand) {
        boolean was = Arrays.equals(first, stand);
        for (Move m : done) {
            was |= Arrays.equals(m.stand(), stand);
        }
        return was;
    }

    int why(int piece, int way, int far) {
        if (state != 1) {
            return 1;
        }
        if (piece < 0 || piece >= kinds.length) {
            return 2;
        }
        int bar = hindrance(now(), piece, way, far);
        if (bar == 0 && comeback == 1 && wasThere(moved(now(), piece, way, far).stand())) {
            return 10;
        }
        return bar;
    }

    int go(int piece, int way, int far) {
        if (why(piece, way, far) != 0) {
            return -1;
        }
        undone.clear();
        return doMove(moved(now(), piece, way, far));
    }

    private int doMove(Move move) {
        boolean was = wasThere(move.stand());
        done.add(move);
        int winner = winnerOf(move.stand());
        state = winner >= 0 ? 2 + winner : was ? 4 : 1;
        return move.taken().size();
    }

    boolean back() {
        if (done.isEmpty()) {
            return false;
        }
        undone.add(done.remove(done.size() - 1));
        state = 1;
        return true;
    }

    boolean again() {
        if (undone.isEmpty()) {
            return false;
        }
        doMove(undone.remove(undone.size() - 1));
        return true;
    }

    int about(int what) {
        return switch (what) {
            case 0 -> state;
            case 1 -> state == 1 ? now()[kinds.length] : -1;
            case 2 -> kinds.length;
            case 3 -> state == 0 ? 0 : (int) Arrays.stream(now(), 0, kinds.length).filter(f -> f < 0).count();
            case 4 -> done.size();
            case 5 -> lines * width;
            case 6 -> undone.size();
            case 7 -> lines;
            case 8 -> done.isEmpty() ? -1 : done.get(done.size() - 1).taken().size();
            default -> -1;
        };
    }

    int piece(int piece, int what) {
        if (piece < 0 || piece >= kinds.length) {
            return -1;
        }
        return switch (what) {
            case 0 -> kinds[piece];
            case 1 -> now()[piece];
            case 2 -> state == 1 ? freeMoves(now(), piece) : 0;
            case 3 -> takes(piece) ? 1 : 0;
            default -> -1;
        };
    }

    int on(int f) {
        return state == 0 ? -1 : pieceOn(now(), f);
    }

    int field(int f) {
        if (state == 0 || f < 0 || f >= lines * width) {
            return -1;
        }
        return (isThrone(f) ? 1 : signOf(f) == 6 ? 2 : 0) + (isGoal(f) ? 4 : 0);
    }

    int took(int k) {
        if (done.isEmpty() || k < 0 || k >= done.get(done.size() - 1).taken().size()) {
            return -1;
        }
        return done.get(done.size() - 1).taken().get(k);
    }

    boolean ring() {
        return isRing(-1);
    }

    boolean needed(int piece) {
        return piece >= 0 && piece < kinds.length && sideOf(piece) == 1 && isRing(-1) && !isRing(piece);
    }

    /** Whether steps over fields without a piece of side 1 (this one aside) lead the king to no goal. */
    private boolean isRing(int aside) {
        if (state == 0 || now()[king()] < 0 || isGoal(now()[king()])) {
            return false;
        }
        boolean[] free = new boolean[lines * width];
        free[now()[king()]] = true;
        for (int round = 0; round < lines * width; round++) {
            for (int f = 0; f < lines * width; f++) {
                for (int way = 0; free[f] && way < 4; way++) {
                    int g = steps(f, way, 1);
                    int p = pieceOn(now(), g);
                    if (g >= 0 && (p < 0 || p == aside || sideOf(p) == 0)) {
                        free[g] = true;
                    }
                }
            }
        }
        for (int f = 0; f < lines * width; f++) {
            if (free[f] && isGoal(f)) {
                return false;
            }
        }
        return true;
    }

    private int placesCount() {
        double n = Math.pow(lines * width + 1, kinds.length);
        return n * 2 > 10000 ? -1 : (int) Math.round(n);
    }

    private int[] standOf(int v, int side) {
        int[] stand = new int[kinds.length + 1];
        int rest = v;
        for (int p = 0; p < kinds.length; p++) {
            stand[p] = rest % (lines * width + 1);
            stand[p] = stand[p] == lines * width ? -1 : stand[p];
            rest /= lines * width + 1;
        }
        stand[kinds.length] = side;
        for (int p = 0; p < kinds.length; p++) {
            if (stand[p] >= 0 && (pieceOn(stand, stand[p]) != p || !bears(stand[p], p))) {
                return null;
            }
        }
        return stand;
    }

    private int numberOf(int[] stand) {
        int v = 0;
        for (int p = kinds.length - 1; p >= 0; p--) {
            v = v * (lines * width + 1) + (stand[p] < 0 ? lines * width : stand[p]);
        }
        return v + stand[kinds.length] * placesCount();
    }

    int solve() {
        if (state == 0 || placesCount() < 0) {
            return -1;
        }
        int places = placesCount();
        int counted = 0;
        int[][] nexts = new int[2 * places][];
        worths = new int[2 * places];
        deeps = new int[2 * places];
        for (int s = 0; s < 2 * places; s++) {
            int[] stand = standOf(s % places, s / places);
            worths[s] = stand == null ? -1 : 2;
            if (stand == null) {
                continue;
            }
            counted++;
            if (winnerOf(stand) >= 0) {
                worths[s] = winnerOf(stand);
            } else {
                nexts[s] = nextsOf(stand);
            }
        }
        boolean changed = true;
        for (int deep = 1; changed; deep++) {
            changed = false;
            for (int s = 0; s < 2 * places; s++) {
                if (worths[s] == 2 && judge(nexts[s], s / places, deep) >= 0) {
                    worths[s] = judge(nexts[s], s / places, deep);
                    deeps[s] = deep;
                    changed = true;
                }
            }
        }
        solved = true;
        return counted;
    }

    private int[] nextsOf(int[] stand) {
        List<Integer> nexts = new ArrayList<>();
        for (int move = 0; move < 32 * kinds.length; move++) {
            if (hindrance(stand, move / 32, move % 32 / 8, move % 8 + 1) == 0) {
                nexts.add(numberOf(moved(stand, move / 32, move % 32 / 8, move % 8 + 1).stand()));
            }
        }
        return nexts.stream().mapToInt(Integer::intValue).toArray();
    }

    private int judge(int[] nexts, int side, int deep) {
        boolean allLost = true;
        for (int t : nexts) {
            boolean known = worths[t] != 2 && deeps[t] < deep;
            if (known && worths[t] == side) {
                return side;
            }
            allLost &= known;
        }
        return allLost ? 1 - side : -1;
    }

    int worth() {
        return solved ? worths[numberOf(now())] : -1;
    }

    int deep() {
        return solved ? deeps[numberOf(now())] : -1;
    }

    int best() {
        if (!solved || winnerOf(now()) >= 0) {
            return -1;
        }
        int best = -1;
        int bestDeep = 0;
        boolean won = worth() == now()[kinds.length];
        for (int move = 0; move < 32 * kinds.length; move++) {
            if (hindrance(now(), move / 32, move % 32 / 8, move % 8 + 1) != 0) {
                continue;
            }
            int t = numberOf(moved(now(), move / 32, move % 32 / 8, move % 8 + 1).stand());
            if (worths[t] == worth() && (best < 0 || (won ? deeps[t] < bestDeep : deeps[t] > bestDeep))) {
                best = move;
                bestDeep = deeps[t];
            }
        }
        return best;
    }

    int count(int worth, int side) {
        if (!solved || worth < 0 || worth > 2 || side < 0 || side > 1) {
            return -1;
        }
        int n = 0;
        for (int v = 0; v < placesCount(); v++) {
            n += worths[v + side * placesCount()] == worth ? 1 : 0;
        }
        return n;
    }

    int most(int side) {
        int most = -1;
        for (int s = 0; solved && side >= 0 && side < 2 && s < worths.length; s++) {
            most = worths[s] == side ? Math.max(most, deeps[s]) : most;
        }
        return most;
    }

    int stand(int v, int side) {
        if (!solved || side < 0 || side > 1 || v < 0 || v >= placesCount()) {
            return -1;
        }
        return worths[v + side * placesCount()];
    }
}
