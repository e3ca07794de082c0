import java.util.Arrays;

/** Promises 18 to 24: solve, worth, deep, best, count, most, stand. */
public final class SolveTest {
    private static final int[] OUTSIDE = {-1, -2, 3, 4, 1000000, Integer.MAX_VALUE, Integer.MIN_VALUE};
    private static final Check CHECK = new Check();

    public static void main(String[] args) {
        howManyCount();
        limit();
        winInOne();
        lineOfBestMoves();
        drawnStands();
        goalsAndTakings();
        counts();
        standsByNumber();
        wrongInputs();
        howLongItStays();
        solvedWhenOver();
        comingBackCountsForNothing();
        CHECK.end();
    }

    private static KingTable begun(int side, String... rows) {
        KingTable t = Boards.told(rows);
        t.begin(side);
        return t;
    }

    private static KingTable captainAndRaider() {
        KingTable t = new KingTable();
        t.law(0, 4, false, 1, 0);
        Boards.tell(t, "r..", ".K.", ".cx");
        t.begin(1);
        return t;
    }

    private static void howManyCount() {
        CHECK.due("two pieces on 2 x 2", 42, begun(0, "k.", ".r").solve());
        CHECK.due("two corners bear no raider", 146, begun(0, "xrx", ".k.", "...").solve());
        CHECK.due("nor does a throne", 74, begun(0, "k.r", "t..").solve());
        CHECK.due("nor the king's throne", 74, begun(1, "K.r", "...").solve());
        CHECK.due("four pieces on 2 x 3", 2090, begun(0, "kgr", "r..").solve());
        CHECK.due("three pieces on 4 x 4", 8258, begun(0, "k...", "....", ".g..", "...r").solve());
    }

    private static void limit() {
        String[] rows = new String[8];
        Arrays.fill(rows, "........");
        rows[0] = "k.......";
        rows[7] = ".......r";
        CHECK.due("8,450 stands", 8322, begun(0, rows).solve());
        Arrays.fill(rows, ".........");
        rows[0] = "k........";
        rows[7] = "........r";
        KingTable t = begun(0, rows);
        CHECK.due("10,658 stands", -1, t.solve());
        CHECK.due("it isn't solved", -1, t.worth());
        CHECK.due("three pieces on 3 x 6", -1, begun(0, "k.....", "......", ".g...r").solve());
        CHECK.due("four pieces on 2 x 4", -1, begun(0, "kg..", "r..r").solve());
        CHECK.due("40 pieces", -1, begun(0, "kgrgrgrgr", "grgrgrgrg", "rgrgrgrgr", "grgrgrgrg", "rgrg.....").solve());
        t = Boards.told("k.", ".r");
        CHECK.due("no play", -1, t.solve());
        t = begun(1, "rg..", "..r.", "....", "k...");
        CHECK.due("four pieces on 4 x 4", -1, t.solve());
        CHECK.due("a guard is taken", 1, t.go(2, 0, 1));
        CHECK.due("taken ones count too", -1, t.solve());
    }

    private static void winInOne() {
        KingTable t = begun(0, "k..x", "r...");
        t.solve();
        CHECK.due("worth", 0, t.worth());
        CHECK.due("deep", 1, t.deep());
        CHECK.due("best: the king, to the right, three", 10, t.best());
        CHECK.due("go", 0, t.go(0, 1, 3));
        CHECK.due("worth of an end", 0, t.worth());
        CHECK.due("deep of an end", 0, t.deep());
        CHECK.due("best of an end", -1, t.best());
        t.back();
        CHECK.due("best behind back()", 10, t.best());
        t = begun(0, "x...", "k..x", "...r");
        t.solve();
        CHECK.due("the first of two by numbers", 0, t.best());
        t = new KingTable();
        t.law(0, 2, true, 0, 0);
        Boards.tell(t, "rk..", "..r.", "....");
        t.begin(1);
        t.solve();
        CHECK.due("won by side 1", 1, t.worth());
        CHECK.due("in one", 1, t.deep());
        CHECK.due("best: piece 2, up, one", 64, t.best());
        t.go(2, 0, 1);
        CHECK.due("the king is taken: worth", 1, t.worth());
        CHECK.due("deep", 0, t.deep());
        CHECK.due("best", -1, t.best());
    }

    private static void lineOfBestMoves() {
        KingTable t = captainAndRaider();
        CHECK.due("stands that count", 944, t.solve());
        CHECK.due("worth", 0, t.worth());
        CHECK.due("deep", 4, t.deep());
        CHECK.due("best: the loser's longest", 8, t.best());
        for (int deep = 4; deep > 0; deep--) {
            int best = t.best();
            CHECK.due("deep along the line", deep, t.deep());
            CHECK.due("worth along the line", 0, t.worth());
            CHECK.due("a best move can be done", 0, t.why(best / 32, best % 32 / 8, best % 8 + 1));
            t.go(best / 32, best % 32 / 8, best % 8 + 1);
        }
        CHECK.due("deep at its end", 0, t.deep());
        CHECK.due("won by side 0", 2, t.about(0));
        CHECK.due("no best move", -1, t.best());
        CHECK.due("greatest deep, side 0", 8, t.most(0));
        CHECK.due("greatest deep, side 1", 1, t.most(1));
    }

    private static void drawnStands() {
        KingTable t = begun(0, "k.", ".r");
        t.solve();
        CHECK.due("drawn", 2, t.worth());
        CHECK.due("deep of a drawn one", 0, t.deep());
        CHECK.due("the first move to a drawn one", 8, t.best());
        CHECK.due("go", 0, t.go(0, 1, 1));
        CHECK.due("drawn still", 2, t.worth());
        CHECK.due("the raider can't go up, so the first is to the left", 56, t.best());
    }

    private static void goalsAndTakings() {
        KingTable t = new KingTable();
        t.law(1, 4, true, 0, 0);
        Boards.tell(t, "...", ".k.", "..r");
        t.begin(1);
        CHECK.due("stands on 3 x 3", 182, t.solve());
        CHECK.due("the king is out next", 0, t.worth());
        CHECK.due("in two", 2, t.deep());
        int inside = 4;
        int taken = 9;
        CHECK.due("the king on a goal, his turn", 0, t.stand(10 * inside, 0));
        CHECK.due("on a goal, the raider taken", 0, t.stand(10 * taken, 0));
        CHECK.due("the king taken", 1, t.stand(taken, 0));
        CHECK.due("the king taken, side 1's turn", 1, t.stand(taken, 1));
        CHECK.due("both taken", 1, t.stand(taken + 10 * taken, 1));
        CHECK.due("the raider taken, its turn", 0, t.stand(inside + 10 * taken, 1));
        CHECK.due("both on one field", -1, t.stand(inside + 10 * inside, 0));
    }

    private static void counts() {
        KingTable t = begun(0, "k.", ".r");
        t.solve();
        int[][] due = {{4, 4}, {5, 5}, {12, 12}};
        for (int worth = 0; worth < 3; worth++) {
            for (int side = 0; side < 2; side++) {
                CHECK.due("count(" + worth + ", " + side + ")", due[worth][side], t.count(worth, side));
            }
        }
        CHECK.due("most(0)", 1, t.most(0));
        CHECK.due("most(1)", 0, t.most(1));
        t = captainAndRaider();
        int all = t.solve();
        for (int worth = 0; worth < 3; worth++) {
            all -= t.count(worth, 0) + t.count(worth, 1);
        }
        CHECK.due("the counts make up all", 0, all);
        CHECK.due("count(0, 0)", 379, t.count(0, 0));
        CHECK.due("count(0, 1)", 371, t.count(0, 1));
        CHECK.due("count(1, 0)", 63, t.count(1, 0));
        CHECK.due("count(2, 1)", 36, t.count(2, 1));
    }

    private static void standsByNumber() {
        KingTable t = begun(0, "k.", ".r");
        t.solve();
        CHECK.due("the stand that there is", 2, t.stand(0 + 5 * 3, 0));
        CHECK.due("the first piece is the lowest digit: he is taken", 1, t.stand(4, 0));
        CHECK.due("the raider is taken", 0, t.stand(20, 0));
        CHECK.due("both on one field", -1, t.stand(6, 0));
        CHECK.due("the greatest", 1, t.stand(24, 1));
        CHECK.due("one more", -1, t.stand(25, 1));
        t = begun(0, "xrx", ".k.", "...");
        t.solve();
        CHECK.due("a raider on a corner", -1, t.stand(0 + 10 * 4, 0));
        CHECK.due("the king on it", 0, t.stand(1 + 10 * 0, 1));
    }

    private static void wrongInputs() {
        KingTable t = begun(0, "k.", ".r");
        CHECK.due("count before solve()", -1, t.count(0, 0));
        CHECK.due("most before solve()", -1, t.most(0));
        CHECK.due("stand before solve()", -1, t.stand(4, 0));
        CHECK.due("worth before solve()", -1, t.worth());
        CHECK.due("deep before solve()", -1, t.deep());
        CHECK.due("best before solve()", -1, t.best());
        t.solve();
        for (int odd : OUTSIDE) {
            CHECK.due("count(" + odd + ", 0)", -1, t.count(odd, 0));
            CHECK.due("count(0, " + odd + ")", -1, t.count(0, odd));
            CHECK.due("most(" + odd + ")", -1, t.most(odd));
            CHECK.due("stand(4, " + odd + ")", -1, t.stand(4, odd));
        }
        CHECK.due("count(0, 2)", -1, t.count(0, 2));
        CHECK.due("most(2)", -1, t.most(2));
        CHECK.due("stand(4, 2)", -1, t.stand(4, 2));
        int[] noNumber = {-1, 25, 26, 5000, Integer.MAX_VALUE, Integer.MIN_VALUE};
        for (int v : noNumber) {
            CHECK.due("stand(" + v + ", 0)", -1, t.stand(v, 0));
        }
    }

    private static void howLongItStays() {
        KingTable t = begun(0, "k.", ".r");
        CHECK.due("solved", 42, t.solve());
        CHECK.due("solved once more", 42, t.solve());
        t.go(0, 1, 1);
        CHECK.due("behind a move", 42, t.solve());
        t.back();
        t.again();
        CHECK.due("a board that's refused", false, t.board(1, 1));
        CHECK.due("a begin that's refused", -1, t.begin(0));
        CHECK.due("a line that's refused", false, t.line(0, 1, 0));
        CHECK.due("it stays solved", 2, t.worth());
        t.stop();
        CHECK.due("not behind stop()", -1, t.worth());
        CHECK.due("nor its counts", -1, t.count(0, 0));
        CHECK.due("nor its greatest deep", -1, t.most(0));
        CHECK.due("nor its stands", -1, t.stand(4, 0));
        t.begin(0);
        CHECK.due("not behind begin()", -1, t.worth());
        t.solve();
        t.board(3, 3);
        CHECK.due("not behind board()", -1, t.stand(4, 0));
        Boards.tell(t, "xrx", ".k.", "...");
        t.begin(0);
        CHECK.due("not solved yet", -1, t.worth());
        CHECK.due("a larger board", 146, t.solve());
        Boards.tell(t, "k.", ".r");
        t.begin(0);
        CHECK.due("a smaller one", 42, t.solve());
        CHECK.due("has no more of the larger", -1, t.stand(25, 0));
        CHECK.due("and its own counts", 4, t.count(0, 0));
        CHECK.due("and its own deeps", 1, t.most(0));
        t.stop();
        t.law(1, 4, true, 0, 0);
        t.begin(0);
        t.solve();
        CHECK.due("and its own laws", 0, t.worth());
    }

    private static void solvedWhenOver() {
        KingTable t = begun(0, "k.x", "..r");
        t.go(0, 1, 2);
        CHECK.due("it's over", 2, t.about(0));
        CHECK.due("but can be solved", true, t.solve() > 0);
        CHECK.due("worth", 0, t.worth());
        CHECK.due("best", -1, t.best());
        t = begun(0, "kr.", "r..");
        CHECK.due("over as it began", 3, t.about(0));
        t.solve();
        CHECK.due("the king can't go: worth", 1, t.worth());
        CHECK.due("deep", 0, t.deep());
        CHECK.due("best", -1, t.best());
    }

    private static void comingBackCountsForNothing() {
        KingTable t = begun(0, "k.", ".r");
        t.solve();
        t.go(0, 1, 1);
        t.go(1, 3, 1);
        t.go(0, 3, 1);
        t.go(1, 1, 1);
        CHECK.due("the play is drawn", 4, t.about(0));
        CHECK.due("the stand's worth", 2, t.worth());
        CHECK.due("has a best move still", 8, t.best());
        t = new KingTable();
        t.law(0, 4, true, 0, 1);
        Boards.tell(t, "k.", ".r");
        t.begin(0);
        t.solve();
        t.go(0, 1, 1);
        t.go(1, 3, 1);
        t.go(0, 3, 1);
        CHECK.due("the only move is refused", 10, t.why(1, 1, 1));
        CHECK.due("and is the best", 40, t.best());
    }
}
