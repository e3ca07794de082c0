import java.util.ArrayList;
import java.util.Arrays;
import java.util.List;

/** Sentences of the document that hold over many calls at once: objects apart, stands of long ago, WORTH and DEEP. */
public final class DocumentTest {
    private static final int UP = Scenes.UP;
    private static final int LEFT = Scenes.LEFT;
    private static final int RIGHT = Scenes.RIGHT;
    private static final int NONE = KingTable.NONE;
    private static final int DRAWN = 2;
    private static final Check CHECK = new Check();

    public static void main(String[] args) {
        objectsAreApart();
        sameCallsSameAnswers();
        standOfLongAgo();
        everyStandByItsMoves();
        countsMakeUpAllStands();
        CHECK.end();
    }

    private static void objectsAreApart() {
        for (Scenes.Scene scene : Scenes.ALL) {
            for (Scenes.Scene other : Scenes.ALL) {
                KingTable one = scene.make();
                CHECK.same(other.name() + " beside another object", other.answers(), Answers.everything(other.make()));
                CHECK.same(scene.name() + " beside another object", scene.answers(), Answers.everything(one));
            }
        }
    }

    private static void sameCallsSameAnswers() {
        for (Scenes.Scene scene : Scenes.ALL) {
            CHECK.same(scene.name() + " once more", scene.answers(), Answers.everything(scene.make()));
            KingTable t = scene.make();
            CHECK.same(scene.name() + " asked twice", Answers.now(t), Answers.now(t));
        }
    }

    /** King and raider go round their lines at different paces: the first stand comes back behind 162 moves. */
    private static void standOfLongAgo() {
        for (int again = 0; again < 2; again++) {
            String[] rows = new String[9];
            Arrays.fill(rows, ".........");
            rows[0] = "k........";
            rows[8] = "r........";
            KingTable t = Boards.told(rows);
            t.law(0, 4, true, 0, again);
            t.begin(0);
            for (int round = 1; round <= 80; round++) {
                goToColumn(t, 0, round % 9);
                goToColumn(t, 1, (round + round / 9) % 9);
            }
            goToColumn(t, 0, 0);
            CHECK.due("moves done", 161, t.about(4));
            CHECK.due("it goes on", 1, t.about(0));
            CHECK.due("a stand that never was", 0, t.why(1, UP, 1));
            CHECK.due("one of long ago", again == 1 ? 10 : 0, t.why(1, LEFT, 6));
            CHECK.due("the first stand", again == 1 ? 10 : 0, t.why(1, LEFT, 7));
            CHECK.due("is it brought back", again == 1 ? NONE : 0, t.go(1, LEFT, 7));
            CHECK.due("how the play is", again == 1 ? 1 : 4, t.about(0));
            CHECK.due("moves done then", again == 1 ? 161 : 162, t.about(4));
        }
    }

    private static void goToColumn(KingTable t, int piece, int column) {
        int from = t.piece(piece, 1) % 9;
        t.go(piece, column > from ? RIGHT : LEFT, Math.abs(column - from));
    }

    private static void everyStandByItsMoves() {
        walk(new Board(0, 4, true, 0, "k.rx", "...r"), 3);
        walk(new Board(0, 4, false, 1, "r..", ".K.", ".cx"), 4);
        walk(new Board(0, 2, true, 0, "x.k", "g..", "..r"), 2);
        walk(new Board(1, 2, true, 1, "....", ".k..", "..r.", "...."), 3);
        walk(new Board(0, 4, true, 0, "k.", "gr"), 6);
        walk(new Board(0, 2, false, 0, "rk..", "..rx"), 3);
    }

    private static void walk(Board board, int steps) {
        for (int side = 0; side < 2; side++) {
            byItsMoves(board, side, new ArrayList<>(), steps);
        }
    }

    /** Plays solved under told LAWS. */
    private record Board(int goal, int hard, boolean takes, int reach, String... rows) {
        KingTable solvedBehind(int side, List<Integer> moves) {
            KingTable t = new KingTable();
            t.law(goal, hard, takes, reach, 0);
            Boards.tell(t, rows);
            t.begin(side);
            t.solve();
            for (int move : moves) {
                goBy(t, move);
            }
            return t;
        }
    }

    private static int goBy(KingTable t, int move) {
        return t.go(move / 32, move / 8 % 4, move % 8 + 1);
    }

    /** What WORTH, DEEP and a best move are due, by the stands to which the moves lead; and so on behind each of them. */
    private static void byItsMoves(Board board, int side, List<Integer> moves, int steps) {
        KingTable t = board.solvedBehind(side, moves);
        String where = String.join("/", board.rows()) + ", side " + side + ", moves " + moves + ": ";
        if (t.about(0) != 1) {
            atAnEnd(where, t);
            return;
        }
        int turn = t.about(1);
        int[] worths = new int[32 * t.about(2)];
        int[] deeps = new int[worths.length];
        for (int move = 0; move < worths.length; move++) {
            worths[move] = NONE;
            if (goBy(t, move) != NONE) {
                worths[move] = t.worth();
                deeps[move] = t.deep();
                t.back();
            }
        }
        int worth = worthDue(worths, turn);
        int best = bestDue(worths, deeps, worth, turn);
        CHECK.due(where + "worth()", worth, t.worth());
        CHECK.due(where + "deep()", worth == DRAWN ? 0 : deeps[best] + 1, t.deep());
        CHECK.due(where + "best()", best, t.best());
        for (int move = 0; move < worths.length && steps > 0; move++) {
            if (worths[move] != NONE) {
                List<Integer> more = new ArrayList<>(moves);
                more.add(move);
                byItsMoves(board, side, more, steps - 1);
            }
        }
    }

    private static void atAnEnd(String where, KingTable t) {
        boolean won = t.about(0) != 4;
        CHECK.due(where + "worth() of an end", true, !won || t.worth() == t.about(0) - 2);
        CHECK.due(where + "deep() of an end", true, !won || t.deep() == 0);
        CHECK.due(where + "best() of an end", won, t.best() == NONE);
    }

    private static int worthDue(int[] worths, int turn) {
        boolean lost = true;
        for (int worth : worths) {
            if (worth == turn) {
                return turn;
            }
            lost &= worth == NONE || worth == 1 - turn;
        }
        return lost ? 1 - turn : DRAWN;
    }

    private static int bestDue(int[] worths, int[] deeps, int worth, int turn) {
        int best = NONE;
        for (int move = 0; move < worths.length; move++) {
            if (worths[move] != worth) {
                continue;
            }
            if (best == NONE || (worth == turn ? deeps[move] < deeps[best] : deeps[move] > deeps[best])) {
                best = move;
            }
        }
        return best;
    }

    /** solve(), count() and stand() tell the same stands. */
    private static void countsMakeUpAllStands() {
        String[] rows = {"k.x", "..r"};
        int places = 7 * 7;
        KingTable t = Boards.told(rows);
        t.begin(1);
        int counted = t.solve();
        int[] found = new int[3 * 2];
        for (int v = 0; v < places; v++) {
            for (int side = 0; side < 2; side++) {
                int worth = t.stand(v, side);
                if (worth != NONE) {
                    found[2 * worth + side]++;
                }
            }
        }
        CHECK.due("stands that count", counted, Arrays.stream(found).sum());
        for (int k = 0; k < found.length; k++) {
            CHECK.due("count(" + k / 2 + ", " + k % 2 + ")", found[k], t.count(k / 2, k % 2));
        }
    }
}
