import java.util.Arrays;

/** Promises 18 to 24 at their bounds: the last value taken, the first refused, and that what is refused does nothing. */
public final class SolveEdgesTest {
    private static final int HUGE = Scenes.HUGE;
    private static final int TINY = Scenes.TINY;
    private static final int NONE = KingTable.NONE;
    private static final int[] ODD = {-1, -2, 3, 4, 256, 65536, HUGE, HUGE - 1, TINY, TINY + 1};
    private static final Check CHECK = new Check();

    public static void main(String[] args) {
        solveWithoutPlay();
        solveTooMany();
        solveUpToTheLimit();
        solveNumbersThatWrapAround();
        solveCountsTakenPieces();
        solveOnceMore();
        solvedOneAfterAnother();
        solvedTillBoard();
        solvedTillStop();
        solvedPastRefusedCalls();
        notSolved();
        worthAndDeepOfEnds();
        worthAndDeepAlongAPlay();
        bestOfEnds();
        bestByNumbers();
        bestFarAndLate();
        countBounds();
        mostBounds();
        standNumberBounds();
        standSideBounds();
        standsThatDoNotCount();
        standsInOrderOfEnds();
        smallestAndFullBoard();
        CHECK.end();
    }

    private static KingTable solved(int side, String... rows) {
        KingTable t = Boards.told(rows);
        t.begin(side);
        t.solve();
        return t;
    }

    private static String[] empty(int lines, int fields) {
        String[] rows = new String[lines];
        Arrays.fill(rows, ".".repeat(fields));
        return rows;
    }

    /** A board with a king, a raider and so many guards more, side by side from its first field on. */
    private static KingTable crowd(int lines, int fields, int pieces) {
        char[] signs = ".".repeat(lines * fields).toCharArray();
        for (int p = 0; p < pieces; p++) {
            signs[p] = p == 0 ? 'k' : p == 1 ? 'r' : 'g';
        }
        String[] rows = new String[lines];
        for (int r = 0; r < lines; r++) {
            rows[r] = new String(signs, r * fields, fields);
        }
        KingTable t = Boards.told(rows);
        CHECK.due(pieces + " pieces on " + lines + " x " + fields, pieces, t.begin(1));
        return t;
    }

    private static void solveWithoutPlay() {
        for (Scenes.Scene scene : Scenes.WITHOUT_PLAY) {
            Scenes.nothingDone(CHECK, scene, "solve()", NONE, KingTable::solve);
        }
    }

    private static void solveTooMany() {
        Scenes.nothingDone(CHECK, Scenes.BEGUN, "solve() of 167,042 stands", NONE, KingTable::solve);
        Scenes.nothingDone(CHECK, Scenes.MIDST, "solve() of 167,042 stands", NONE, KingTable::solve);
        int[][] tooMany = {{8, 9, 2}, {9, 8, 2}, {9, 9, 2}, {2, 9, 3}, {9, 2, 3}, {3, 6, 3}, {2, 4, 4}, {3, 3, 4}, {2, 3, 5}};
        for (int[] b : tooMany) {
            KingTable t = crowd(b[0], b[1], b[2]);
            String where = b[2] + " pieces on " + b[0] + " x " + b[1];
            CHECK.due(where + ": solve()", NONE, t.solve());
            CHECK.due(where + ": worth()", NONE, t.worth());
            CHECK.due(where + ": deep()", NONE, t.deep());
            CHECK.due(where + ": best()", NONE, t.best());
            CHECK.due(where + ": count(0, 0)", NONE, t.count(0, 0));
            CHECK.due(where + ": most(1)", NONE, t.most(1));
            CHECK.due(where + ": stand(1, 0)", NONE, t.stand(1, 0));
            CHECK.due(where + ": the play stays", b[2], t.about(2));
        }
    }

    /** Of f plain fields and p pieces, 2 times the sum of C(p, k) f (f - 1) .. (f - k + 1) over k on the board count. */
    private static int counting(int f, int p) {
        int all = 0;
        for (int k = 0; k <= p; k++) {
            int ways = 1;
            for (int i = 0; i < k; i++) {
                ways = ways * (p - i) / (i + 1);
            }
            for (int i = 0; i < k; i++) {
                ways *= f - i;
            }
            all += ways;
        }
        return 2 * all;
    }

    private static void solveUpToTheLimit() {
        int[][] fits = {{8, 8, 2}, {7, 9, 2}, {9, 7, 2}, {4, 4, 3}, {2, 8, 3}, {8, 2, 3}, {3, 5, 3}, {2, 3, 4}, {3, 2, 4}, {2, 2, 4}};
        for (int[] b : fits) {
            String where = b[2] + " pieces on " + b[0] + " x " + b[1];
            CHECK.due(where + ": solve()", counting(b[0] * b[1], b[2]), crowd(b[0], b[1], b[2]).solve());
        }
    }

    /** 64 to the 6th, 16 to the 8th and 2 to the 36th more are 0 in the low 32 bits; others come out small or below 0. */
    private static void solveNumbersThatWrapAround() {
        for (int pieces = 3; pieces <= 40; pieces++) {
            CHECK.due(pieces + " pieces, base 64: solve()", NONE, crowd(7, 9, pieces).solve());
        }
        for (int pieces = 4; pieces <= 15; pieces++) {
            CHECK.due(pieces + " pieces, base 16: solve()", NONE, crowd(3, 5, pieces).solve());
        }
        for (int pieces = 3; pieces <= 40; pieces++) {
            CHECK.due(pieces + " pieces, base 82: solve()", NONE, crowd(9, 9, pieces).solve());
            CHECK.due(pieces + " pieces, base 50: solve()", NONE, crowd(7, 7, pieces).solve());
        }
    }

    private static void solveCountsTakenPieces() {
        KingTable t = Boards.told("rg.r", "....", "k...", "....");
        t.begin(1);
        CHECK.due("four pieces", NONE, t.solve());
        CHECK.due("one is taken", 1, t.go(2, 3, 1));
        CHECK.due("three are left, four count", NONE, t.solve());
        t = Boards.told("rg.r", "k...");
        t.begin(1);
        CHECK.due("four pieces on 2 x 4", NONE, t.solve());
        t = Boards.told("rg.", "k..");
        t.begin(1);
        int all = t.solve();
        CHECK.due("three pieces on 2 x 3", counting(6, 3), all);
    }

    private static void solveOnceMore() {
        for (Scenes.Scene scene : new Scenes.Scene[] {Scenes.SOLVED, Scenes.SOLVED_OVER}) {
            KingTable t = scene.make();
            int counted = 0;
            for (int k = 0; k < 6; k++) {
                counted += t.count(k % 3, k / 3);
            }
            Scenes.nothingDone(CHECK, scene, "solve()", counted, KingTable::solve);
        }
    }

    /** What an object has solved before leaves nothing behind: it answers as one that has solved this board alone. */
    private static void solvedOneAfterAnother() {
        String[][] boards = {
            {"k.", ".r"}, {"k.x", "r.."}, {"kr.", "..g"}, {"r..", ".K.", ".cx"}, {"xk.", "..r"}, {"k.", ".r"}, {"kr", "gc"},
            {"k..x", "r.g.", "...."}, {"kr.", "x.."}, {"k..x", "r.g.", "...."}
        };
        KingTable all = new KingTable();
        for (String[] rows : boards) {
            KingTable one = new KingTable();
            Boards.tell(one, rows);
            Boards.tell(all, rows);
            String where = String.join("/", rows);
            CHECK.due(where + ": begin(1)", one.begin(1), all.begin(1));
            CHECK.due(where + ": solve()", one.solve(), all.solve());
            for (int side = 0; side < 2; side++) {
                CHECK.due(where + ": most(" + side + ")", one.most(side), all.most(side));
                for (int worth = 0; worth < 3; worth++) {
                    CHECK.due(where + ": count(" + worth + ", " + side + ")", one.count(worth, side), all.count(worth, side));
                }
            }
            CHECK.due(where + ": deep()", one.deep(), all.deep());
            CHECK.due(where + ": best()", one.best(), all.best());
        }
        int won = all.count(0, 0);
        int most = all.most(0);
        for (int i = 0; i < 40; i++) {
            all.stop();
            all.begin(1);
            CHECK.due("solved " + i + " times more: solve()", counting(11, 3) + counting(11, 2), all.solve());
            CHECK.due("solved " + i + " times more: count(0, 0)", won, all.count(0, 0));
            CHECK.due("solved " + i + " times more: most(0)", most, all.most(0));
        }
    }

    private static void noneIsSolved(String where, KingTable t) {
        CHECK.due(where + ": worth()", NONE, t.worth());
        CHECK.due(where + ": deep()", NONE, t.deep());
        CHECK.due(where + ": best()", NONE, t.best());
        for (int side = 0; side < 2; side++) {
            CHECK.due(where + ": most(" + side + ")", NONE, t.most(side));
            for (int worth = 0; worth < 3; worth++) {
                CHECK.due(where + ": count(" + worth + ", " + side + ")", NONE, t.count(worth, side));
            }
            for (int v = 0; v < 30; v++) {
                CHECK.due(where + ": stand(" + v + ", " + side + ")", NONE, t.stand(v, side));
            }
        }
    }

    private static void solvedTillBoard() {
        KingTable t = Scenes.SOLVED.make();
        CHECK.due("board()", true, t.board(3, 3));
        noneIsSolved("behind board()", t);
        Boards.tell(t, "k..", "...", "..r");
        t.begin(0);
        noneIsSolved("begun anew", t);
        CHECK.due("solve()", counting(9, 2), t.solve());
    }

    private static void solvedTillStop() {
        KingTable t = Scenes.SOLVED.make();
        CHECK.due("stop()", true, t.stop());
        noneIsSolved("behind stop()", t);
        CHECK.due("begin()", 3, t.begin(1));
        noneIsSolved("behind begin()", t);
        CHECK.due("solve()", 944, t.solve());
    }

    private static void solvedPastRefusedCalls() {
        for (Scenes.Scene scene : new Scenes.Scene[] {Scenes.SOLVED, Scenes.SOLVED_OVER}) {
            Scenes.nothingDone(CHECK, scene, "board(1, 3)", 0, t -> Scenes.bit(t.board(1, 3)));
            Scenes.nothingDone(CHECK, scene, "begin(0)", NONE, t -> t.begin(0));
            Scenes.nothingDone(CHECK, scene, "line(0, 1, 0)", 0, t -> Scenes.bit(t.line(0, 1, 0)));
            Scenes.nothingDone(CHECK, scene, "law(0, 4, true, 0, 0)", 0, t -> Scenes.bit(t.law(0, 4, true, 0, 0)));
            Scenes.nothingDone(CHECK, scene, "go(9, 0, 1)", NONE, t -> t.go(9, 0, 1));
        }
        KingTable t = Scenes.SOLVED.make();
        CHECK.due("solved", true, t.worth() != NONE);
        t.back();
        CHECK.due("solved behind back()", 0, t.worth());
        t.again();
        CHECK.due("solved behind again()", true, t.worth() != NONE);
    }

    private static void notSolved() {
        for (Scenes.Scene scene : Scenes.NOT_SOLVED) {
            noneIsSolved(scene.name(), scene.make());
            Scenes.nothingDone(CHECK, scene, "worth()", NONE, KingTable::worth);
            Scenes.nothingDone(CHECK, scene, "deep()", NONE, KingTable::deep);
            Scenes.nothingDone(CHECK, scene, "best()", NONE, KingTable::best);
            Scenes.nothingDone(CHECK, scene, "count(0, 0)", NONE, t -> t.count(0, 0));
            Scenes.nothingDone(CHECK, scene, "most(0)", NONE, t -> t.most(0));
            Scenes.nothingDone(CHECK, scene, "stand(0, 0)", NONE, t -> t.stand(0, 0));
        }
    }

    private static void end(String what, int worth, KingTable t) {
        CHECK.due(what + ": worth()", worth, t.worth());
        CHECK.due(what + ": deep()", 0, t.deep());
        CHECK.due(what + ": best()", NONE, t.best());
    }

    private static KingTable solvedBy(int goal, int hard, int side, String... rows) {
        KingTable t = new KingTable();
        t.law(goal, hard, true, 0, 0);
        Boards.tell(t, rows);
        t.begin(side);
        t.solve();
        return t;
    }

    private static void worthAndDeepOfEnds() {
        end("a king on a goal, his turn", 0, solvedBy(1, 4, 0, "k..", "..r"));
        end("a king on a goal, side 1's turn", 0, solvedBy(1, 4, 1, "k..", "..r"));
        end("side 0 can't go", 1, solvedBy(0, 4, 0, "kr.", "r.."));
        end("side 1 can't go", 0, solvedBy(0, 4, 1, "rg.", "k.."));
        KingTable t = solvedBy(0, 2, 1, "rk..", "..r.");
        CHECK.due("the king can be taken: worth()", 1, t.worth());
        CHECK.due("deep()", 1, t.deep());
        t.go(2, 0, 1);
        end("the king is taken", 1, t);
        t = solvedBy(0, 4, 0, "gr.g", "k...");
        CHECK.due("four pieces on 2 x 4 can't be solved", NONE, t.worth());
        t = solvedBy(0, 4, 0, "kr.", "..g");
        CHECK.due("the only raider can be taken: worth()", 0, t.worth());
        CHECK.due("deep()", 1, t.deep());
        t.go(2, 0, 1);
        CHECK.due("it is", 1, t.about(3));
        end("side 1 has none left", 0, t);
    }

    private static void worthAndDeepAlongAPlay() {
        KingTable t = solved(0, "k.", ".r");
        CHECK.due("drawn: worth()", 2, t.worth());
        CHECK.due("drawn: deep()", 0, t.deep());
        t = Scenes.SOLVED.make();
        t.back();
        CHECK.due("worth() where it began", 0, t.worth());
        CHECK.due("deep() where it began", 4, t.deep());
        for (int deep = 3; deep >= 0; deep--) {
            int best = t.best();
            CHECK.due("the best move goes", 0, t.go(best / 32, best / 8 % 4, best % 8 + 1));
            CHECK.due("worth() on the way", 0, t.worth());
            CHECK.due("deep() on the way", deep, t.deep());
        }
    }

    private static void bestOfEnds() {
        Scenes.nothingDone(CHECK, Scenes.SOLVED_OVER, "best()", NONE, KingTable::best);
        KingTable t = Scenes.SOLVED_OVER.make();
        t.back();
        CHECK.due("best() before the end", 9, t.best());
    }

    private static void bestByNumbers() {
        KingTable t = solved(0, "x.k.x", "....r");
        CHECK.due("two ways as short: the lower way's number", 8 + 1, t.best());
        t = solved(0, "k.x.x", "....r");
        CHECK.due("two fars as short: the nearer", 8 + 1, t.best());
        t = solvedBy(0, 2, 1, ".x.", "xk.", "..r");
        CHECK.due("a raider takes from two sides: up before left", 32, t.best());
        t = solvedBy(0, 2, 1, ".xr", "xk.", "r..");
        CHECK.due("either raider takes: the lower piece's number", 16, t.best());
        t = solved(0, "x..", "k.x", "..r");
        CHECK.due("the first number of all: piece 0, up, one", 0, t.best());
        t = solved(0, "k.", ".r");
        CHECK.due("drawn: the first to a drawn one", 8, t.best());
        t = Scenes.SOLVED.make();
        t.back();
        CHECK.due("lost: the first to the greatest deep", 8, t.best());
    }

    private static void bestFarAndLate() {
        KingTable t = solved(0, "k.......x", ".r.......");
        CHECK.due("eight to the right", 8 + 7, t.best());
        t = solved(0, "x.......k", ".r.......");
        CHECK.due("eight to the left", 24 + 7, t.best());
        String[] rows = empty(9, 2);
        rows[0] = "k.";
        rows[1] = ".r";
        rows[8] = "x.";
        t = solved(0, rows);
        CHECK.due("eight down", 16 + 7, t.best());
        rows = empty(9, 2);
        rows[0] = "x.";
        rows[1] = ".r";
        rows[8] = "k.";
        t = solved(0, rows);
        CHECK.due("the second piece, eight up", 32 + 7, t.best());
        t = solved(0, "grg", "..k");
        CHECK.due("the fourth piece shuts the raider in, one to the left", 3 * 32 + 24, t.best());
    }

    private static void countBounds() {
        for (Scenes.Scene scene : new Scenes.Scene[] {Scenes.SOLVED, Scenes.SOLVED_OVER}) {
            for (int worth = 0; worth < 3; worth++) {
                for (int side = 0; side < 2; side++) {
                    CHECK.due(scene.name() + ": count(" + worth + ", " + side + ")", true,
                        scene.make().count(worth, side) >= 0);
                }
            }
            for (int odd : ODD) {
                for (int k = 0; k < 3; k++) {
                    int good = k;
                    Scenes.nothingDone(CHECK, scene, "count(" + odd + ", " + k % 2 + ")", NONE,
                        t -> t.count(odd, good % 2));
                    Scenes.nothingDone(CHECK, scene, "count(" + k + ", " + odd + ")", NONE, t -> t.count(good, odd));
                }
                Scenes.nothingDone(CHECK, scene, "count(" + odd + ", " + odd + ")", NONE, t -> t.count(odd, odd));
            }
            for (int worth = 0; worth < 3; worth++) {
                CHECK.due(scene.name() + ": count(" + worth + ", 2)", NONE, scene.make().count(worth, 2));
            }
        }
    }

    private static void mostBounds() {
        for (Scenes.Scene scene : new Scenes.Scene[] {Scenes.SOLVED, Scenes.SOLVED_OVER}) {
            CHECK.due(scene.name() + ": most(0)", true, scene.make().most(0) >= 0);
            CHECK.due(scene.name() + ": most(1)", true, scene.make().most(1) >= 0);
            CHECK.due(scene.name() + ": most(2)", NONE, scene.make().most(2));
            for (int side : ODD) {
                Scenes.nothingDone(CHECK, scene, "most(" + side + ")", NONE, t -> t.most(side));
            }
        }
        CHECK.due("ends alone: most(1) is 0", 0, solved(0, "k.", ".r").most(1));
    }

    private static void standNumberBounds() {
        int[][] boards = {{2, 2, 2}, {2, 2, 3}, {2, 2, 4}, {2, 3, 4}, {4, 4, 3}, {8, 8, 2}};
        for (int[] b : boards) {
            KingTable t = crowd(b[0], b[1], b[2]);
            t.solve();
            int all = 1;
            for (int p = 0; p < b[2]; p++) {
                all *= b[0] * b[1] + 1;
            }
            String where = b[2] + " pieces on " + b[0] + " x " + b[1] + ": ";
            CHECK.due(where + "the last stand: all are taken", 1, t.stand(all - 1, 0));
            CHECK.due(where + "and the other side on turn", 1, t.stand(all - 1, 1));
            CHECK.due(where + "the first: all on one field", NONE, t.stand(0, 0));
            for (int v : new int[] {all, all + 1, 2 * all - 1, 2 * all, 10000, HUGE, HUGE / 2 + 1, -1, -all, TINY, TINY + 1}) {
                CHECK.due(where + "stand(" + v + ", 0)", NONE, t.stand(v, 0));
                CHECK.due(where + "stand(" + v + ", 1)", NONE, t.stand(v, 1));
            }
        }
        for (int v : new int[] {-1, 1000, HUGE, TINY}) {
            Scenes.nothingDone(CHECK, Scenes.SOLVED, "stand(" + v + ", 0)", NONE, t -> t.stand(v, 0));
        }
        CHECK.due("stand(999, 0) of 1,000", 1, Scenes.SOLVED.make().stand(999, 0));
    }

    private static void standSideBounds() {
        for (int side : new int[] {-1, -2, 2, 3, 256, 65536, HUGE, TINY, TINY + 1}) {
            Scenes.nothingDone(CHECK, Scenes.SOLVED, "stand(999, " + side + ")", NONE, t -> t.stand(999, side));
            Scenes.nothingDone(CHECK, Scenes.SOLVED_OVER, "stand(6, " + side + ")", NONE, t -> t.stand(6, side));
        }
    }

    private static void standsThatDoNotCount() {
        KingTable t = solved(0, "kr", "tx");
        int king = 1;
        int raider = 5;
        CHECK.due("it counts: as told", true, t.stand(0 * king + 1 * raider, 0) != NONE);
        for (int side = 0; side < 2; side++) {
            for (int f = 0; f < 4; f++) {
                CHECK.due("both on field " + f, NONE, t.stand(f * king + f * raider, side));
            }
            CHECK.due("a raider on the throne", NONE, t.stand(0 * king + 2 * raider, side));
            CHECK.due("a raider on a corner", NONE, t.stand(0 * king + 3 * raider, side));
            CHECK.due("the king on the throne counts", true, t.stand(2 * king + 0 * raider, side) != NONE);
            CHECK.due("the king on a corner has won", 0, t.stand(3 * king + 0 * raider, side));
            CHECK.due("both taken counts", 1, t.stand(4 * king + 4 * raider, side));
        }
        CHECK.due("so many count", 2 * ((4 * 2 - 2) + 4 + 2 + 1), t.solve());
        t = solved(0, "k.g", "xr.");
        int guard = 7;
        CHECK.due("a guard on a corner", NONE, t.stand(0 + 3 * guard + 4 * guard * guard, 0));
        t = solved(1, "k.x", "c..");
        CHECK.due("a captain on a corner", NONE, t.stand(0 + 7 * 2, 0));
        CHECK.due("a captain elsewhere", true, t.stand(0 + 7 * 1, 0) != NONE);
    }

    private static void standsInOrderOfEnds() {
        KingTable t = solvedBy(1, 4, 0, "k.", ".r");
        int raider = 5;
        CHECK.due("the king is taken before side 1 can't go", 1, t.stand(4 + 4 * raider, 1));
        CHECK.due("the king is taken before side 0 can't go", 1, t.stand(4 + 0 * raider, 0));
        t = solvedBy(0, 4, 0, "kg", ".r");
        for (int side = 0; side < 2; side++) {
            CHECK.due("the king is taken, his guard could go on", 1, t.stand(4 + 0 * 5 + 3 * 25, side));
        }
        t = solvedBy(1, 4, 0, "kr", "r.");
        CHECK.due("a goal before side 0 can't go", 0, t.worth());
        CHECK.due("and so as a stand", 0, t.stand(0 + 1 * 5 + 2 * 25, 0));
        CHECK.due("the same at side 1's turn", 0, t.stand(0 + 1 * 5 + 2 * 25, 1));
        t = solvedBy(0, 4, 0, "kr", "r.");
        CHECK.due("no goal: side 0 can't go", 1, t.stand(0 + 1 * 5 + 2 * 25, 0));
        CHECK.due("its raider taken, side 1 can't go", 0, t.stand(0 + 4 * 5 + 4 * 25, 1));
    }

    private static void smallestAndFullBoard() {
        KingTable t = solved(0, "kr", "gc");
        CHECK.due("a full board", counting(4, 4), t.solve());
        end("nobody can go", 1, t);
        t = solved(1, "kr", "gc");
        end("nobody can go, side 1's turn", 0, t);
        t = solved(0, "kr", "xx");
        CHECK.due("corners all around: out in one", 1, t.deep());
        CHECK.due("down", 16, t.best());
    }
}
