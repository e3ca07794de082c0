import java.util.Arrays;
import java.util.List;
import java.util.Random;

/** Promises 7 to 17 at their bounds: the last value taken, the first refused, and that what is refused does nothing. */
public final class PlayEdgesTest {
    private static final int UP = Scenes.UP;
    private static final int RIGHT = Scenes.RIGHT;
    private static final int DOWN = Scenes.DOWN;
    private static final int LEFT = Scenes.LEFT;
    private static final int HUGE = Scenes.HUGE;
    private static final int TINY = Scenes.TINY;
    private static final int[] ODD = {-1, -2, 81, 82, 256, 65536, HUGE, HUGE - 1, TINY, TINY + 1};
    private static final Check CHECK = new Check();

    public static void main(String[] args) {
        goTakesNoneToThree();
        why1NoPlayOrOver();
        why2NoSuchPiece();
        why3Taken();
        why4NotItsTurn();
        why5NoSuchWay();
        why5FarBelowOne();
        why6BeyondTheBoard();
        why7BeyondReach();
        why8NotEmpty();
        why9NotBorne();
        why8And9ByTheFirstField();
        why10Again();
        whyTheFirstOfAll();
        whyDoesNothing();
        aboutBounds();
        aboutWithoutPlay();
        aboutFullAndEmpty();
        pieceBounds();
        pieceWhatBounds();
        pieceMovesFromNoneToMost();
        pieceTaken();
        onBounds();
        fieldBounds();
        tookBounds();
        ringWhereThereIsNone();
        neededBounds();
        backWithoutMoves();
        againWithoutMoves();
        backAndAgainToTheirEnds();
        longPlays();
        lateTaking();
        aMoveEndsAgain();
        CHECK.end();
    }

    /** why() tells the reason, go() is refused, and neither has done anything. */
    private static void cannot(Scenes.Scene scene, int reason, int piece, int way, int far) {
        String args = "(" + piece + ", " + way + ", " + far + ")";
        Scenes.nothingDone(CHECK, scene, "why" + args, reason, t -> t.why(piece, way, far));
        Scenes.nothingDone(CHECK, scene, "go" + args, KingTable.NONE, t -> t.go(piece, way, far));
    }

    private static Scenes.Scene begun(int side, String... rows) {
        return Scenes.scene(String.join("/", rows), () -> Scenes.begun(Boards.told(rows), side));
    }

    private static void goTakesNoneToThree() {
        String[][] boards = {
            {"...r...", ".......", ".r...r.", ".......", "...r...", "k......"},
            {"...r...", ".......", ".rg..r.", ".......", "...r...", "k......"},
            {"...r...", "...g...", ".rg..r.", ".......", "...r...", "k......"},
            {"...r...", "...g...", ".rg.gr.", ".......", "...r...", "k......"}
        };
        for (int n = 0; n < boards.length; n++) {
            KingTable t = Boards.told(boards[n]);
            int pieces = t.begin(1);
            CHECK.due("a move that takes " + n, n, t.go(pieces - 2, UP, 2));
            CHECK.due("about(8)", n, t.about(8));
            CHECK.due("about(3)", n, t.about(3));
            for (int k = 0; k < 4; k++) {
                CHECK.due("whether there is took(" + k + ")", k < n, t.took(k) != KingTable.NONE);
                CHECK.due("by numbers: took(" + k + ")", true, k == 0 || k >= n || t.took(k - 1) < t.took(k));
            }
            KingTable untouched = Scenes.begun(Boards.told(boards[n]), 1);
            t.back();
            for (int p = 0; p < pieces; p++) {
                CHECK.due("taken back: piece(" + p + ", 1)", untouched.piece(p, 1), t.piece(p, 1));
                CHECK.due("taken back: on its field", p, t.on(t.piece(p, 1)));
            }
        }
        KingTable t = Boards.told(".gr.", "...r", "....", "k...");
        t.begin(1);
        t.go(2, LEFT, 3);
        t.go(3, RIGHT, 1);
        CHECK.due("the first piece is taken", 1, t.go(2, UP, 1));
        CHECK.due("it counts", 1, t.about(3));
        CHECK.due("took(0)", 0, t.took(0));
        t = Boards.told("...rg..", "...g...", ".....r.", ".......", "...r...", "k......");
        t.begin(0);
        t.go(1, DOWN, 2);
        CHECK.due("two are taken, the one above has the greater number", 2, t.go(4, UP, 2));
        CHECK.due("took(0)", 1, t.took(0));
        CHECK.due("took(1)", 2, t.took(1));
    }

    private static void why1NoPlayOrOver() {
        int[][] moves = {{0, RIGHT, 1}, {1, UP, 1}, {0, DOWN, 2}, {HUGE, TINY, HUGE}, {-1, -1, -1}, {0, 4, 0}};
        for (int[] m : moves) {
            for (Scenes.Scene scene : Scenes.WITHOUT_PLAY) {
                cannot(scene, 1, m[0], m[1], m[2]);
            }
            for (Scenes.Scene scene : Scenes.OVER) {
                cannot(scene, 1, m[0], m[1], m[2]);
            }
        }
    }

    private static void why2NoSuchPiece() {
        for (Scenes.Scene scene : Scenes.GOING_ON) {
            int pieces = scene.make().about(2);
            CHECK.due(scene.name() + ": the first piece is there", true, scene.make().why(0, UP, 1) != 2);
            CHECK.due(scene.name() + ": the last piece is there", true, scene.make().why(pieces - 1, UP, 1) != 2);
            cannot(scene, 2, pieces, UP, 1);
            cannot(scene, 2, 39, UP, 1);
            cannot(scene, 2, 40, UP, 1);
            for (int p : ODD) {
                cannot(scene, 2, p, UP, 1);
                cannot(scene, 2, p, 4, 0);
            }
        }
    }

    private static void why3Taken() {
        int[][] moves = {{UP, 1}, {RIGHT, 1}, {DOWN, 1}, {LEFT, 1}, {4, 0}, {-1, -1}, {HUGE, HUGE}, {TINY, TINY}};
        for (int[] m : moves) {
            cannot(Scenes.MIDST, 3, 2, m[0], m[1]);
        }
        KingTable t = Scenes.MIDST.make();
        t.back();
        t.back();
        CHECK.due("taken back, it's not taken any more, only not on turn", 4, t.why(2, UP, 1));
    }

    private static void why4NotItsTurn() {
        int[][] moves = {{UP, 1}, {RIGHT, 1}, {DOWN, 1}, {LEFT, 1}, {4, 0}, {-1, -1}, {HUGE, HUGE}, {TINY, TINY}};
        for (int[] m : moves) {
            cannot(Scenes.BEGUN, 4, 1, m[0], m[1]);
            cannot(Scenes.BEGUN, 4, 2, m[0], m[1]);
            cannot(Scenes.MIDST, 4, 0, m[0], m[1]);
            cannot(Scenes.REFUSING, 4, 0, m[0], m[1]);
        }
    }

    private static void why5NoSuchWay() {
        Scenes.Scene open = begun(1, "....", ".r..", "....", "...k");
        for (int way = 0; way < 4; way++) {
            CHECK.due("way " + way, 0, open.make().why(0, way, 1));
        }
        for (int way : ODD) {
            cannot(open, 5, 0, way, 1);
            cannot(open, 5, 0, way, HUGE);
        }
        cannot(open, 5, 0, 4, 1);
        cannot(open, 5, 0, 5, 1);
    }

    private static void why5FarBelowOne() {
        Scenes.Scene open = begun(1, "....", ".r..", "....", "...k");
        for (int way = 0; way < 4; way++) {
            for (int far : new int[] {0, -1, -2, -9, -256, TINY, TINY + 1}) {
                cannot(open, 5, 0, way, far);
            }
        }
    }

    private static void why6BeyondTheBoard() {
        Scenes.Scene open = begun(1, "....", ".r..", "....", "....", "...k");
        int[] last = {1, 2, 3, 1};
        for (int way = 0; way < 4; way++) {
            CHECK.due("to the edge, way " + way, 0, open.make().why(0, way, last[way]));
            for (int far : new int[] {last[way] + 1, last[way] + 2, 8, 9, 10, 256 + 1, 65536 + 1, HUGE, HUGE - 1}) {
                cannot(open, 6, 0, way, far);
            }
        }
        for (int way = 0; way < 4; way++) {
            Scenes.Scene wide = way % 2 == 1
                ? begun(1, way == RIGHT ? "r........" : "........r", "k........")
                : begun(1, columns(way == DOWN));
            int mover = way == UP ? 1 : 0;
            CHECK.due("eight fields, way " + way, 0, wide.make().why(mover, way, 8));
            cannot(wide, 6, mover, way, 9);
            KingTable t = wide.make();
            CHECK.due("going eight, way " + way, 0, t.go(mover, way, 8));
        }
    }

    private static String[] columns(boolean fromAbove) {
        String[] rows = new String[9];
        for (int r = 0; r < 9; r++) {
            rows[r] = "..";
        }
        rows[0] = fromAbove ? "r." : ".k";
        rows[8] = fromAbove ? ".k" : "r.";
        return rows;
    }

    private static void why7BeyondReach() {
        for (int reach = 1; reach <= 8; reach++) {
            int law = reach;
            Scenes.Scene scene = Scenes.scene("reach " + reach, () -> {
                KingTable t = new KingTable();
                t.law(0, 4, true, law, 0);
                Boards.tell(t, "k........", "r...g....");
                t.begin(0);
                return t;
            });
            CHECK.due(scene.name() + ": so far", 0, scene.make().why(0, RIGHT, reach));
            CHECK.due(scene.name() + ": so many moves", reach, scene.make().piece(0, 2));
            CHECK.due(scene.name() + ": a guard goes on", 0, scene.make().why(2, RIGHT, 4));
            for (int far = reach + 1; far <= 8; far++) {
                cannot(scene, 7, 0, RIGHT, far);
            }
            cannot(scene, 6, 0, RIGHT, 9);
            cannot(scene, 6, 0, RIGHT, HUGE);
        }
    }

    private static void why8NotEmpty() {
        Scenes.Scene scene = begun(0, "k.g.", "....", "r...", "....");
        CHECK.due("before a guard", 0, scene.make().why(0, RIGHT, 1));
        cannot(scene, 8, 0, RIGHT, 2);
        cannot(scene, 8, 0, RIGHT, 3);
        CHECK.due("before a raider", 0, scene.make().why(0, DOWN, 1));
        cannot(scene, 8, 0, DOWN, 2);
        cannot(scene, 8, 0, DOWN, 3);
    }

    private static void why9NotBorne() {
        Scenes.Scene scene = begun(0, "g.x.", "....", "t..k", "..r.");
        CHECK.due("before a corner", 0, scene.make().why(0, RIGHT, 1));
        cannot(scene, 9, 0, RIGHT, 2);
        cannot(scene, 9, 0, RIGHT, 3);
        CHECK.due("before the throne", 0, scene.make().why(0, DOWN, 1));
        cannot(scene, 9, 0, DOWN, 2);
        cannot(scene, 9, 0, DOWN, 3);
        CHECK.due("the king goes onto the throne", 0, scene.make().why(1, LEFT, 3));
        Scenes.Scene raiders = begun(1, "r.x.", "....", "t..k", "..c.");
        cannot(raiders, 9, 0, RIGHT, 2);
        cannot(raiders, 9, 0, DOWN, 2);
        cannot(raiders, 9, 2, UP, 3);
    }

    private static void why8And9ByTheFirstField() {
        Scenes.Scene scene = begun(1, "rxg.", "g...", "t..k", "..r.");
        cannot(scene, 9, 0, RIGHT, 2);
        cannot(scene, 8, 0, DOWN, 2);
        Scenes.Scene held = begun(1, "r.K.", "....", "....", "..r.");
        cannot(held, 8, 0, RIGHT, 2);
        cannot(held, 8, 0, RIGHT, 3);
        cannot(held, 8, 2, UP, 3);
    }

    private static void why10Again() {
        cannot(Scenes.REFUSING, 10, 1, RIGHT, 1);
        CHECK.due("another move isn't refused", 0, Scenes.REFUSING.make().why(1, LEFT, 1));
        CHECK.due("nor one farther", 0, Scenes.REFUSING.make().why(1, UP, 1));
        CHECK.due("with AGAIN 0 it's done", 0, Scenes.DRAWN.make().about(8));
        CHECK.due("and drawn", 4, Scenes.DRAWN.make().about(0));
        KingTable t = Scenes.REFUSING.make();
        t.back();
        CHECK.due("the king may do again what brings back nothing", true, t.again());
        CHECK.due("the raider is refused still", 10, t.why(1, RIGHT, 1));
        t.stop();
        t.begin(0);
        t.go(0, RIGHT, 1);
        CHECK.due("stands of the play before don't count", 0, t.why(1, LEFT, 1));
    }

    /** Each reason set against all that come behind it in the row of 1 to 10. */
    private static void whyTheFirstOfAll() {
        KingTable t = Boards.told("k....", ".rg..", "...r.", "....x");
        CHECK.due("no play before no piece", 1, t.why(9, 9, 0));
        t.begin(1);
        CHECK.due("no piece before no way", 2, t.why(4, 9, 0));
        t.go(3, UP, 1);
        t.go(0, RIGHT, 1);
        CHECK.due("taken before not its turn", 3, t.why(2, 9, 0));
        CHECK.due("not its turn before no way", 4, t.why(0, 9, 0));
        CHECK.due("no way before beyond the board", 5, t.why(1, 4, HUGE));
        CHECK.due("far below 1 before what is on the way", 5, t.why(1, UP, 0));
        CHECK.due("beyond the board before a piece on the way", 6, t.why(1, UP, 2));
        t = new KingTable();
        t.law(0, 4, true, 1, 0);
        Boards.tell(t, "kr..", "....");
        t.begin(0);
        CHECK.due("beyond the board before reach", 6, t.why(0, RIGHT, 4));
        CHECK.due("reach before a piece on the way", 7, t.why(0, RIGHT, 2));
        CHECK.due("a piece within reach", 8, t.why(0, RIGHT, 1));
    }

    private static void whyDoesNothing() {
        for (Scenes.Scene scene : Scenes.GOING_ON) {
            int pieces = scene.make().about(2);
            for (int p = 0; p < pieces; p++) {
                for (int way = 0; way < 4; way++) {
                    int piece = p;
                    int to = way;
                    Scenes.nothingDone(CHECK, scene, "why(" + p + ", " + way + ", 1)",
                        scene.make().why(p, way, 1), t -> t.why(piece, to, 1));
                }
            }
        }
    }

    private static void aboutBounds() {
        for (Scenes.Scene scene : Scenes.ALL) {
            CHECK.due(scene.name() + ": about(0) is there", true, scene.make().about(0) != KingTable.NONE);
            CHECK.due(scene.name() + ": about(7) is there", true, scene.make().about(7) != KingTable.NONE);
            for (int what : ODD) {
                Scenes.nothingDone(CHECK, scene, "about(" + what + ")", KingTable.NONE, t -> t.about(what));
            }
            for (int what = 9; what < 20; what++) {
                CHECK.due(scene.name() + ": about(" + what + ")", KingTable.NONE, scene.make().about(what));
            }
        }
    }

    private static void aboutWithoutPlay() {
        for (Scenes.Scene scene : Scenes.WITHOUT_PLAY) {
            int[] due = {0, -1, 0, 0, 0, -2, 0, -2, -1};
            for (int what = 0; what < due.length; what++) {
                if (due[what] != -2) {
                    CHECK.due(scene.name() + ": about(" + what + ")", due[what], scene.make().about(what));
                }
            }
        }
        for (Scenes.Scene scene : Scenes.OVER) {
            CHECK.due(scene.name() + ": nobody is on turn", KingTable.NONE, scene.make().about(1));
        }
        CHECK.due("won by side 0", 2, Scenes.WON_0.make().about(0));
        CHECK.due("won by side 1", 3, Scenes.WON_1.make().about(0));
        CHECK.due("drawn", 4, Scenes.DRAWN.make().about(0));
        CHECK.due("at an end, no latest move", KingTable.NONE, Scenes.AT_AN_END.make().about(8));
        CHECK.due("begun, no latest move", KingTable.NONE, Scenes.BEGUN.make().about(8));
        CHECK.due("a latest move that took none", 0, Scenes.WON_0.make().about(8));
    }

    private static void aboutFullAndEmpty() {
        KingTable t = Boards.told("kg", "rc");
        CHECK.due("a full board begins", 4, t.begin(0));
        CHECK.due("all its fields", 4, t.about(5));
        CHECK.due("and nobody can go: won by side 1", 3, t.about(0));
        t.stop();
        t.begin(1);
        CHECK.due("or by side 0", 2, t.about(0));
        t = Boards.told("gr.g", "....", "k...");
        t.begin(0);
        CHECK.due("the only raider is taken", 1, t.go(2, LEFT, 1));
        CHECK.due("so side 1 can't go", 2, t.about(0));
        CHECK.due("one is taken", 1, t.about(3));
        CHECK.due("pieces stay as many", 4, t.about(2));
    }

    private static void pieceBounds() {
        for (Scenes.Scene scene : Scenes.ALL) {
            int pieces = scene.make().about(2);
            for (int what = 0; what < 4; what++) {
                int asked = what;
                for (int p : ODD) {
                    Scenes.nothingDone(CHECK, scene, "piece(" + p + ", " + what + ")", KingTable.NONE,
                        t -> t.piece(p, asked));
                }
                Scenes.nothingDone(CHECK, scene, "piece(" + pieces + ", " + what + ")", KingTable.NONE,
                    t -> t.piece(pieces, asked));
                CHECK.due(scene.name() + ": piece(40, " + what + ")", KingTable.NONE, scene.make().piece(40, what));
            }
            if (pieces > 0) {
                CHECK.due(scene.name() + ": the first piece", true, scene.make().piece(0, 0) >= 1);
                CHECK.due(scene.name() + ": the last piece", true, scene.make().piece(pieces - 1, 0) >= 1);
            }
        }
    }

    private static void pieceWhatBounds() {
        for (Scenes.Scene scene : Scenes.IN_PLAY) {
            for (int what : ODD) {
                Scenes.nothingDone(CHECK, scene, "piece(0, " + what + ")", KingTable.NONE, t -> t.piece(0, what));
            }
            CHECK.due(scene.name() + ": piece(0, 3)", true, scene.make().piece(0, 3) >= 0);
            CHECK.due(scene.name() + ": piece(0, 4)", KingTable.NONE, scene.make().piece(0, 4));
            CHECK.due(scene.name() + ": piece(-1, -1)", KingTable.NONE, scene.make().piece(-1, -1));
        }
    }

    private static void pieceMovesFromNoneToMost() {
        KingTable t = Boards.told(".gr", "...", "..k");
        t.begin(1);
        CHECK.due("one way alone", 1, t.piece(1, 2));
        t = Boards.told("rg.", "g..", "r.k");
        t.begin(1);
        CHECK.due("no way", 0, t.piece(0, 2));
        CHECK.due("but the other has one", 1, t.piece(3, 2));
        String[] rows = new String[9];
        Arrays.fill(rows, ".........");
        rows[4] = "....r....";
        rows[8] = "k........";
        t = Boards.told(rows);
        t.begin(1);
        CHECK.due("sixteen, from the middle of the largest board", 16, t.piece(0, 2));
        CHECK.due("none, if it's not its side's turn", 0, t.piece(1, 2));
        for (Scenes.Scene scene : Scenes.OVER) {
            int pieces = scene.make().about(2);
            for (int p = 0; p < pieces; p++) {
                CHECK.due(scene.name() + ": no side is on turn", 0, scene.make().piece(p, 2));
            }
        }
        CHECK.due("what AGAIN refuses counts", 4, Scenes.REFUSING.make().piece(1, 2));
    }

    private static void pieceTaken() {
        int[] due = {1, KingTable.NONE, 0, 1};
        for (int what = 0; what < 4; what++) {
            CHECK.due("a taken guard: piece(2, " + what + ")", due[what], Scenes.MIDST.make().piece(2, what));
        }
        KingTable t = Scenes.MIDST.make();
        t.again();
        CHECK.due("on its side's turn too", 0, t.piece(2, 2));
        CHECK.due("a taken king", KingTable.NONE, Scenes.WON_1.make().piece(1, 1));
        CHECK.due("is a king", 2, Scenes.WON_1.make().piece(1, 0));
    }

    private static void onBounds() {
        for (Scenes.Scene scene : Scenes.ALL) {
            int fields = scene.make().about(5);
            for (int f : ODD) {
                Scenes.nothingDone(CHECK, scene, "on(" + f + ")", KingTable.NONE, t -> t.on(f));
            }
            CHECK.due(scene.name() + ": on(" + fields + ")", KingTable.NONE, scene.make().on(fields));
        }
        for (Scenes.Scene scene : Scenes.WITHOUT_PLAY) {
            for (int f = 0; f < 9; f++) {
                CHECK.due(scene.name() + ": on(" + f + ")", KingTable.NONE, scene.make().on(f));
            }
        }
        KingTable t = Boards.told("k..", "...", "..r");
        t.begin(0);
        CHECK.due("the first field", 0, t.on(0));
        CHECK.due("an empty one", KingTable.NONE, t.on(1));
        CHECK.due("the last field", 1, t.on(8));
        CHECK.due("one more", KingTable.NONE, t.on(9));
        String[] rows = new String[9];
        Arrays.fill(rows, ".........");
        rows[0] = "k........";
        rows[8] = "........r";
        t = Boards.told(rows);
        t.begin(0);
        CHECK.due("the last field of the largest board", 1, t.on(80));
        CHECK.due("one more", KingTable.NONE, t.on(81));
    }

    private static void fieldBounds() {
        for (Scenes.Scene scene : Scenes.ALL) {
            int fields = scene.make().about(5);
            for (int f : ODD) {
                Scenes.nothingDone(CHECK, scene, "field(" + f + ")", KingTable.NONE, t -> t.field(f));
            }
            CHECK.due(scene.name() + ": field(" + fields + ")", KingTable.NONE, scene.make().field(fields));
        }
        for (Scenes.Scene scene : Scenes.WITHOUT_PLAY) {
            for (int f = 0; f < 16; f++) {
                CHECK.due(scene.name() + ": field(" + f + ")", KingTable.NONE, scene.make().field(f));
            }
        }
        KingTable t = Boards.told("x..", ".K.", "r.x");
        t.begin(0);
        CHECK.due("the first field", 6, t.field(0));
        CHECK.due("the last field", 6, t.field(8));
        CHECK.due("one more", KingTable.NONE, t.field(9));
        CHECK.due("a throne that's held", 1, t.field(4));
        t.go(1, UP, 1);
        CHECK.due("a throne that's left", 1, t.field(4));
        t.board(9, 9);
        t.line(0, 1, 2);
        t.line(8, 9, 3 << 24);
        t.begin(0);
        CHECK.due("the last field of the largest board", 0, t.field(80));
        CHECK.due("one more", KingTable.NONE, t.field(81));
        t.board(2, 2);
        t.line(0, 2, Boards.signs("kr"));
        t.begin(0);
        CHECK.due("the last field of the smallest board", 0, t.field(3));
        CHECK.due("a field of the board before", KingTable.NONE, t.field(4));
    }

    private static void tookBounds() {
        for (Scenes.Scene scene : Scenes.ALL) {
            for (int k : ODD) {
                Scenes.nothingDone(CHECK, scene, "took(" + k + ")", KingTable.NONE, t -> t.took(k));
            }
            for (int k = 3; k < 9; k++) {
                CHECK.due(scene.name() + ": took(" + k + ")", KingTable.NONE, scene.make().took(k));
            }
        }
        CHECK.due("took(0) of a king taken", 1, Scenes.WON_1.make().took(0));
        CHECK.due("took(1) then", KingTable.NONE, Scenes.WON_1.make().took(1));
        KingTable t = Scenes.MIDST.make();
        CHECK.due("the latest move took none", KingTable.NONE, t.took(0));
        t.back();
        CHECK.due("the one before took the guard", 2, t.took(0));
        CHECK.due("and it alone", KingTable.NONE, t.took(1));
        t.back();
        CHECK.due("without a latest move", KingTable.NONE, t.took(0));
        t.go(3, LEFT, 1);
        CHECK.due("behind another move", KingTable.NONE, t.took(0));
    }

    private static void ringWhereThereIsNone() {
        for (Scenes.Scene scene : Scenes.WITHOUT_PLAY) {
            Scenes.nothingDone(CHECK, scene, "ring()", 0, t -> Scenes.bit(t.ring()));
        }
        Scenes.nothingDone(CHECK, Scenes.WON_1, "ring() of a king taken", 0, t -> Scenes.bit(t.ring()));
        Scenes.nothingDone(CHECK, Scenes.WON_0, "ring() of a king on a goal", 0, t -> Scenes.bit(t.ring()));
        Scenes.nothingDone(CHECK, Scenes.AT_AN_END, "ring() of a king on the edge", 0, t -> Scenes.bit(t.ring()));
        KingTable t = new KingTable();
        t.law(1, 4, true, 0, 0);
        Boards.tell(t, "kr", "r.");
        t.begin(1);
        CHECK.due("raiders around a king on a goal", false, t.ring());
        CHECK.due("none is needed", false, t.needed(1));
        t = Boards.told(".kr", ".rr", "x..");
        t.begin(1);
        for (int i = 0; i < 3; i++) {
            CHECK.due("a way out by the first field, asked once more", false, t.ring());
            CHECK.due("so none is needed", false, t.needed(1));
        }
        t = new KingTable();
        t.law(1, 4, true, 0, 0);
        Boards.tell(t, ".r.", "rkr", ".r.");
        t.begin(1);
        CHECK.due("the smallest ring inside", true, t.ring());
        CHECK.due("each one is needed", true, t.needed(0) && t.needed(1) && t.needed(3) && t.needed(4));
        CHECK.due("a ring around a king who isn't taken yet", 1, t.about(0));
    }

    private static void neededBounds() {
        for (Scenes.Scene scene : Scenes.ALL) {
            int pieces = scene.make().about(2);
            for (int p : ODD) {
                Scenes.nothingDone(CHECK, scene, "needed(" + p + ")", 0, t -> Scenes.bit(t.needed(p)));
            }
            Scenes.nothingDone(CHECK, scene, "needed(" + pieces + ")", 0, t -> Scenes.bit(t.needed(pieces)));
        }
        for (Scenes.Scene scene : Scenes.WITHOUT_PLAY) {
            for (int p = 0; p < 4; p++) {
                CHECK.due(scene.name() + ": needed(" + p + ")", false, scene.make().needed(p));
            }
        }
        KingTable t = Boards.told("xr.k", "rg..");
        t.begin(1);
        CHECK.due("the first raider", true, t.needed(0));
        CHECK.due("the king", false, t.needed(1));
        CHECK.due("the last raider", true, t.needed(2));
        CHECK.due("a guard", false, t.needed(3));
        CHECK.due("none behind the last piece", false, t.needed(4));
        t = Boards.told("kr..", "r...", "...x");
        t.begin(1);
        CHECK.due("a ring of two", true, t.ring() && t.needed(1) && t.needed(2));
        String[] rows = new String[9];
        Arrays.fill(rows, ".........");
        rows[0] = "k........";
        rows[8] = "........r";
        t = Boards.told(rows);
        t.begin(0);
        CHECK.due("80 fields without a goal", true, t.ring());
        CHECK.due("and 81 without the raider", false, t.needed(1));
    }

    private static void backWithoutMoves() {
        for (Scenes.Scene scene : Scenes.WITHOUT_PLAY) {
            Scenes.nothingDone(CHECK, scene, "back()", Scenes.REFUSED, t -> Scenes.bit(t.back()));
        }
        Scenes.nothingDone(CHECK, Scenes.BEGUN, "back()", Scenes.REFUSED, t -> Scenes.bit(t.back()));
        Scenes.nothingDone(CHECK, Scenes.AT_AN_END, "back()", Scenes.REFUSED, t -> Scenes.bit(t.back()));
        Scenes.Scene allBack = Scenes.scene("all moves taken back", () -> {
            KingTable t = Scenes.MIDST.make();
            t.back();
            t.back();
            return t;
        });
        Scenes.nothingDone(CHECK, allBack, "back()", Scenes.REFUSED, t -> Scenes.bit(t.back()));
    }

    private static void againWithoutMoves() {
        for (Scenes.Scene scene : Scenes.WITHOUT_PLAY) {
            Scenes.nothingDone(CHECK, scene, "again()", Scenes.REFUSED, t -> Scenes.bit(t.again()));
        }
        for (Scenes.Scene scene : Scenes.OVER) {
            Scenes.nothingDone(CHECK, scene, "again()", Scenes.REFUSED, t -> Scenes.bit(t.again()));
        }
        Scenes.nothingDone(CHECK, Scenes.BEGUN, "again()", Scenes.REFUSED, t -> Scenes.bit(t.again()));
        Scenes.nothingDone(CHECK, Scenes.REFUSING, "again()", Scenes.REFUSED, t -> Scenes.bit(t.again()));
    }

    private static void backAndAgainToTheirEnds() {
        for (Scenes.Scene scene : Scenes.IN_PLAY) {
            KingTable t = scene.make();
            int done = t.about(4);
            int undone = t.about(6);
            List<String> before = Answers.now(t);
            for (int i = 0; i < done; i++) {
                CHECK.due(scene.name() + ": back " + i, true, t.back());
                CHECK.due(scene.name() + ": it goes on behind back()", 1, t.about(0));
                CHECK.due(scene.name() + ": moves done", done - i - 1, t.about(4));
                CHECK.due(scene.name() + ": moves to do again", undone + i + 1, t.about(6));
            }
            CHECK.due(scene.name() + ": no more back", false, t.back());
            for (int i = 0; i < done; i++) {
                CHECK.due(scene.name() + ": again " + i, true, t.again());
            }
            CHECK.same(scene.name() + ": as it was", before, Answers.now(t));
            for (int i = 0; i < undone; i++) {
                CHECK.due(scene.name() + ": again " + i, true, t.again());
            }
            CHECK.due(scene.name() + ": no more again", false, t.again());
        }
    }

    /** As many moves as the 512 calls of an object leave room for, and half as many done and taken back. */
    private static void longPlays() {
        KingTable t = longPlay(506);
        CHECK.due("506 moves, told by the 512th call", 506, t.about(4));
        t = longPlay(252);
        for (int i = 0; i < 252; i++) {
            CHECK.due("back " + i + " of 252", true, t.back());
        }
        CHECK.due("none left", 0, t.about(4));
        CHECK.due("as it began", 0, t.on(0));
    }

    /** King and raider go round their lines, 81 rounds without a stand coming back; only then a guard is taken. */
    private static void lateTaking() {
        String[] rows = new String[9];
        Arrays.fill(rows, ".........");
        rows[0] = "k........";
        rows[2] = "r........";
        rows[8] = "rg.r.....";
        KingTable t = Boards.told(rows);
        t.law(0, 4, true, 0, 1);
        t.begin(0);
        for (int round = 1; round <= 80; round++) {
            CHECK.due("the king's round " + round, 0, goToColumn(t, 0, round % 9));
            CHECK.due("the raider's round " + round, 0, goToColumn(t, 1, (round + round / 9) % 9));
        }
        goToColumn(t, 0, 0);
        CHECK.due("moves done", 161, t.about(4));
        CHECK.due("a guard is taken", 1, t.go(4, LEFT, 1));
        CHECK.due("took(0)", 3, t.took(0));
        CHECK.due("about(8)", 1, t.about(8));
        CHECK.due("back", true, t.back());
        CHECK.due("it's on its field", 73, t.piece(3, 1));
        CHECK.due("again", true, t.again());
        CHECK.due("it's taken", KingTable.NONE, t.piece(3, 1));
    }

    private static int goToColumn(KingTable t, int piece, int column) {
        int from = t.piece(piece, 1) % 9;
        return t.go(piece, column > from ? RIGHT : LEFT, Math.abs(column - from));
    }

    /** The moves are sought by the model, since asking the table would cost calls of it. */
    private static KingTable longPlay(int moves) {
        KingTable t = new KingTable();
        Model model = new Model();
        Random dice = new Random(moves);
        CHECK.due("board", model.board(9, 9), t.board(9, 9));
        CHECK.due("law", model.law(0, 4, true, 0, 1), t.law(0, 4, true, 0, 1));
        CHECK.due("line", model.line(0, 1, 2), t.line(0, 1, 2));
        CHECK.due("line", model.line(8, 9, 3 << 24), t.line(8, 9, 3 << 24));
        CHECK.due("begin", model.begin(0), t.begin(0));
        for (int done = 0; done < moves;) {
            int way = dice.nextInt(4);
            int far = 1 + dice.nextInt(8);
            if (model.go(done % 2, way, far) == 0) {
                CHECK.due("move " + done, 0, t.go(done % 2, way, far));
                done++;
            }
        }
        return t;
    }

    private static void aMoveEndsAgain() {
        KingTable t = Scenes.MIDST.make();
        CHECK.due("one to do again", 1, t.about(6));
        CHECK.due("a move that is refused", KingTable.NONE, t.go(1, UP, 9));
        CHECK.due("leaves it", 1, t.about(6));
        CHECK.due("the very same move", 0, t.go(1, LEFT, 1));
        CHECK.due("ends it", 0, t.about(6));
        CHECK.due("none to do again", false, t.again());
        t = Scenes.MIDST.make();
        t.back();
        t.back();
        CHECK.due("three to do again", 3, t.about(6));
        CHECK.due("another move", 0, t.go(1, DOWN, 1));
        CHECK.due("ends all three", 0, t.about(6));
        CHECK.due("none to do again", false, t.again());
        CHECK.due("back", true, t.back());
        CHECK.due("that one alone can be done again", 1, t.about(6));
    }
}
