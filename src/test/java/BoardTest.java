/** Promises 1 to 6: a new object, board, line, law, begin, stop. */
public final class BoardTest {
    private static final int FAR_OFF = Integer.MAX_VALUE;
    private static final int FAR_BELOW = Integer.MIN_VALUE;
    private static final Check CHECK = new Check();

    public static void main(String[] args) {
        newObject();
        firstLaws();
        boardSizes();
        boardForgetsLinesAndPlay();
        boardKeepsLaws();
        lineBounds();
        lineSigns();
        lineOnlyWithoutPlay();
        lawBounds();
        lawOnlyWithoutPlay();
        beginNeeds();
        beginManyPieces();
        beginNumbersPieces();
        beginSides();
        beginWithAnEnd();
        stopKeepsBoard();
        CHECK.end();
    }

    private static void newObject() {
        KingTable t = new KingTable();
        int[] about = {0, -1, 0, 0, 0, 9, 0, 3, -1, -1};
        for (int what = 0; what < about.length; what++) {
            CHECK.due("new: about(" + what + ")", about[what], t.about(what));
        }
        CHECK.due("new: line(2, 3, 0)", true, t.line(2, 3, 0));
        noPlay("new", t);
        CHECK.due("new: begin(0)", -1, t.begin(0));
        CHECK.due("new: stop()", false, t.stop());
    }

    private static void noPlay(String where, KingTable t) {
        CHECK.due(where + ": about(0)", 0, t.about(0));
        CHECK.due(where + ": about(1)", -1, t.about(1));
        CHECK.due(where + ": about(2)", 0, t.about(2));
        CHECK.due(where + ": about(3)", 0, t.about(3));
        CHECK.due(where + ": about(4)", 0, t.about(4));
        CHECK.due(where + ": about(6)", 0, t.about(6));
        CHECK.due(where + ": about(8)", -1, t.about(8));
        CHECK.due(where + ": go", -1, t.go(0, 0, 1));
        CHECK.due(where + ": why", 1, t.why(0, 0, 1));
        CHECK.due(where + ": why of nonsense", 1, t.why(FAR_OFF, FAR_BELOW, FAR_OFF));
        for (int k = 0; k < 9; k++) {
            CHECK.due(where + ": on", -1, t.on(k));
            CHECK.due(where + ": field", -1, t.field(k));
            CHECK.due(where + ": piece", -1, t.piece(k, 0));
            CHECK.due(where + ": needed", false, t.needed(k));
        }
        CHECK.due(where + ": took", -1, t.took(0));
        CHECK.due(where + ": ring", false, t.ring());
        CHECK.due(where + ": back", false, t.back());
        CHECK.due(where + ": again", false, t.again());
        CHECK.due(where + ": solve", -1, t.solve());
        CHECK.due(where + ": worth", -1, t.worth());
        CHECK.due(where + ": deep", -1, t.deep());
        CHECK.due(where + ": best", -1, t.best());
        CHECK.due(where + ": count", -1, t.count(0, 0));
        CHECK.due(where + ": most", -1, t.most(0));
        CHECK.due(where + ": stand", -1, t.stand(0, 0));
    }

    private static void firstLaws() {
        KingTable t = Boards.told("x...", "k.r.", "....", "...r");
        t.begin(0);
        CHECK.due("at first a corner is the goal", 6, t.field(0));
        CHECK.due("at first the edge is none", 0, t.field(1));
        CHECK.due("at first the king takes", 1, t.piece(0, 3));
        CHECK.due("at first he goes as far as he likes", 0, t.why(0, 2, 2));
        t = Boards.told(".....", "rk.r.", ".....");
        t.begin(1);
        CHECK.due("at first two raiders don't take the king", 0, t.go(2, 3, 1));
        t = Boards.told("k..", "...", "..r");
        t.begin(0);
        t.go(0, 1, 1);
        t.go(1, 3, 1);
        t.go(0, 3, 1);
        CHECK.due("at first a stand may come back", 0, t.go(1, 1, 1));
        CHECK.due("at first that is a draw", 4, t.about(0));
    }

    private static void boardSizes() {
        KingTable t = new KingTable();
        int[] wrong = {1, 0, -1, 10, 11, FAR_OFF, FAR_BELOW};
        for (int n : wrong) {
            CHECK.due("board(" + n + ", 3)", false, t.board(n, 3));
            CHECK.due("board(3, " + n + ")", false, t.board(3, n));
        }
        CHECK.due("a board refused: fields", 9, t.about(5));
        for (int lines = 2; lines <= 9; lines++) {
            for (int fields = 2; fields <= 9; fields++) {
                CHECK.due("board(" + lines + ", " + fields + ")", true, t.board(lines, fields));
                CHECK.due("its fields", lines * fields, t.about(5));
                CHECK.due("its lines", lines, t.about(7));
            }
        }
    }

    private static void boardForgetsLinesAndPlay() {
        KingTable t = Boards.told("k.r", "...", "...");
        t.begin(0);
        CHECK.due("solved", true, t.solve() > 0);
        CHECK.due("a wrong board in a play", false, t.board(10, 2));
        CHECK.due("does nothing to it", 1, t.about(0));
        CHECK.due("and it stays solved", true, t.worth() != -1);
        t.go(0, 2, 1);
        CHECK.due("a board in a play", true, t.board(3, 3));
        noPlay("behind board()", t);
        CHECK.due("no lines are told", -1, t.begin(0));
        CHECK.due("one can be told", true, t.line(0, 3, Boards.signs("k.r")));
        CHECK.due("and begins", 2, t.begin(0));
        CHECK.due("on three fields of a line", 2, t.piece(1, 1));
    }

    private static void boardKeepsLaws() {
        KingTable t = new KingTable();
        t.law(1, 2, false, 3, 1);
        Boards.tell(t, "....", ".k..", "...r", "....");
        t.begin(0);
        CHECK.due("the goal stays", 4, t.field(0));
        CHECK.due("takes stays", 0, t.piece(0, 3));
    }

    private static void lineBounds() {
        KingTable t = new KingTable();
        t.board(2, 4);
        int[] noLine = {-1, 2, 3, FAR_OFF, FAR_BELOW};
        for (int r : noLine) {
            CHECK.due("line(" + r + ", 1, 0)", false, t.line(r, 1, 0));
        }
        int[] noLength = {-1, 5, 9, FAR_OFF, FAR_BELOW};
        for (int n : noLength) {
            CHECK.due("line(0, " + n + ", 2)", false, t.line(0, n, 2));
        }
        for (int n = 0; n <= 4; n++) {
            CHECK.due("line(1, " + n + ", 0)", true, t.line(1, n, 0));
        }
        t.line(0, 4, Boards.signs("k..r"));
        CHECK.due("a line refused", false, t.line(0, 5, 0));
        CHECK.due("stays as it was", 2, t.begin(0));
    }

    private static void lineSigns() {
        KingTable t = new KingTable();
        t.board(2, 9);
        t.line(0, 9, Boards.signs("gKrcx...r"));
        t.line(1, 9, Boards.signs("........g"));
        CHECK.due("pieces", 6, t.begin(0));
        int[] kinds = {1, 2, 3, 4, 3, 1};
        int[] fields = {0, 1, 2, 3, 8, 17};
        for (int p = 0; p < kinds.length; p++) {
            CHECK.due("kind of " + p, kinds[p], t.piece(p, 0));
            CHECK.due("field of " + p, fields[p], t.piece(p, 1));
        }
        CHECK.due("a king on the throne", 1, t.field(1));
        CHECK.due("a corner", 6, t.field(4));
        t.stop();
        CHECK.due("a shorter line", true, t.line(0, 3, -1 << 9 | Boards.signs("kr.")));
        CHECK.due("replaces the longer one", 3, t.begin(0));
        CHECK.due("bits behind its signs are nothing", 0, t.field(4));
        t.stop();
        CHECK.due("a line of 0 signs isn't told", true, t.line(0, 0, -1));
        CHECK.due("so there's no king", -1, t.begin(0));
        CHECK.due("a negative number's signs", true, t.line(0, 1, -6));
        CHECK.due("no raider", -1, t.begin(0));
        CHECK.due("one", true, t.line(1, 1, 3));
        CHECK.due("begins", 2, t.begin(0));
    }

    private static void lineOnlyWithoutPlay() {
        KingTable t = Boards.told("kr", "x.");
        t.begin(0);
        CHECK.due("line() in a play", false, t.line(0, 2, 0));
        t.go(0, 2, 1);
        CHECK.due("it's won", 2, t.about(0));
        CHECK.due("line() when it's over", false, t.line(0, 2, 0));
        CHECK.due("law() when it's over", false, t.law(1, 2, true, 0, 0));
        CHECK.due("begin() when it's over", -1, t.begin(0));
        t.stop();
        CHECK.due("nothing was done", 2, t.begin(0));
        t.stop();
        CHECK.due("line() behind stop()", true, t.line(0, 2, 0));
        CHECK.due("did it", -1, t.begin(0));
    }

    private static void lawBounds() {
        KingTable t = new KingTable();
        int[] notGoal = {-1, 2, FAR_OFF, FAR_BELOW};
        for (int n : notGoal) {
            CHECK.due("goal " + n, false, t.law(n, 4, true, 0, 0));
            CHECK.due("again " + n, false, t.law(0, 4, true, 0, n));
        }
        int[] notHard = {-2, 0, 1, 3, 5, 6, FAR_OFF, FAR_BELOW};
        for (int n : notHard) {
            CHECK.due("hard " + n, false, t.law(0, n, true, 0, 0));
        }
        int[] notReach = {-1, 9, FAR_OFF, FAR_BELOW};
        for (int n : notReach) {
            CHECK.due("reach " + n, false, t.law(0, 4, true, n, 0));
        }
        for (int reach = 0; reach <= 8; reach++) {
            CHECK.due("reach " + reach, true, t.law(reach % 2, 2, false, reach, reach / 2 % 2));
        }
        CHECK.due("laws", true, t.law(1, 2, false, 1, 1));
        CHECK.due("laws refused", false, t.law(0, 4, true, 9, 0));
        Boards.tell(t, "....", ".k..", "....", "...r");
        t.begin(0);
        CHECK.due("laws refused change no goal", 4, t.field(1));
        CHECK.due("nor whether he takes", 0, t.piece(0, 3));
        CHECK.due("nor his reach", 7, t.why(0, 1, 2));
    }

    private static void lawOnlyWithoutPlay() {
        KingTable t = Boards.told("....", ".k..", "....", "...r");
        t.begin(0);
        CHECK.due("law() in a play", false, t.law(1, 2, false, 1, 1));
        CHECK.due("does nothing", 0, t.field(1));
        t.stop();
        CHECK.due("law() behind stop()", true, t.law(1, 2, false, 1, 1));
        t.begin(0);
        CHECK.due("does it", 4, t.field(1));
    }

    private static void beginNeeds() {
        CHECK.due("no king", -1, Boards.told("g.r", "...").begin(0));
        CHECK.due("two kings", -1, Boards.told("k.k", "..r").begin(0));
        CHECK.due("two kings, one on the throne", -1, Boards.told("k.K", "..r").begin(0));
        CHECK.due("no raider", -1, Boards.told("k.g", "...").begin(0));
        CHECK.due("a captain is enough", 2, Boards.told("k.c", "...").begin(0));
        CHECK.due("a king on the throne", 2, Boards.told("K.r", "...").begin(0));
        CHECK.due("an empty throne", 2, Boards.told("k.r", "t..").begin(0));
        CHECK.due("two thrones", -1, Boards.told("k.r", "t.t").begin(0));
        CHECK.due("two thrones, the king on one", -1, Boards.told("K.r", "t..").begin(0));
        CHECK.due("corners anywhere", 2, Boards.told("kxr", "xxx").begin(0));
    }

    private static void beginManyPieces() {
        KingTable t = new KingTable();
        t.board(9, 9);
        for (int r = 0; r < 4; r++) {
            t.line(r, 9, Boards.signs("grgrgrgrg"));
        }
        t.line(4, 9, Boards.signs("kgrc....."));
        CHECK.due("40 pieces", 40, t.begin(0));
        CHECK.due("the last of them", 39, t.piece(39, 1));
        CHECK.due("is a captain", 4, t.piece(39, 0));
        CHECK.due("and none is behind it", -1, t.piece(40, 0));
        t.stop();
        t.line(4, 9, Boards.signs("kgrc....g"));
        CHECK.due("41 pieces", -1, t.begin(0));
        t.line(4, 9, Boards.signs("kgrcxxxxt"));
        CHECK.due("corners and the throne are no pieces", 40, t.begin(0));
        t.stop();
        for (int r = 0; r < 9; r++) {
            t.line(r, 9, Boards.signs(r == 4 ? "rrrrkrrrr" : "ggggggggg"));
        }
        CHECK.due("81 pieces", -1, t.begin(0));
    }

    private static void beginNumbersPieces() {
        KingTable t = Boards.told(".r.", "c.k", "g.x");
        CHECK.due("pieces", 4, t.begin(1));
        int[] fields = {1, 3, 5, 6};
        int[] kinds = {3, 4, 2, 1};
        for (int p = 0; p < 4; p++) {
            CHECK.due("field of " + p, fields[p], t.piece(p, 1));
            CHECK.due("kind of " + p, kinds[p], t.piece(p, 0));
            CHECK.due("on its field", p, t.on(fields[p]));
        }
    }

    private static void beginSides() {
        KingTable t = Boards.told("k..", "..r");
        int[] wrong = {-1, 2, FAR_OFF, FAR_BELOW};
        for (int side : wrong) {
            CHECK.due("begin(" + side + ")", -1, t.begin(side));
            CHECK.due("does nothing", 0, t.about(0));
        }
        CHECK.due("begin(1)", 2, t.begin(1));
        CHECK.due("side 1 is on turn", 1, t.about(1));
        CHECK.due("begin(0) in a play", -1, t.begin(0));
        CHECK.due("does nothing", 1, t.about(1));
        t.stop();
        CHECK.due("begin(0)", 2, t.begin(0));
        CHECK.due("side 0 is on turn", 0, t.about(1));
    }

    private static void beginWithAnEnd() {
        for (int side = 0; side < 2; side++) {
            KingTable t = new KingTable();
            t.law(1, 4, true, 0, 0);
            Boards.tell(t, "...", "k..", "..r");
            CHECK.due("a king on a goal begins", 2, t.begin(side));
            CHECK.due("won by side 0", 2, t.about(0));
            CHECK.due("nobody is on turn", -1, t.about(1));
        }
        KingTable t = Boards.told("kr.", "r..", "...");
        CHECK.due("a king shut in begins", 3, t.begin(0));
        CHECK.due("won by side 1", 3, t.about(0));
        t.stop();
        t.begin(1);
        CHECK.due("with side 1 on turn it goes on", 1, t.about(0));
        t = Boards.told("rg.", "gk.", "...");
        t.begin(1);
        CHECK.due("a raider shut in: won by side 0", 2, t.about(0));
    }

    private static void stopKeepsBoard() {
        KingTable t = new KingTable();
        t.law(1, 2, false, 1, 1);
        Boards.tell(t, "....", ".k..", "....", "...r");
        CHECK.due("stop() without a play", false, t.stop());
        t.begin(0);
        t.go(0, 1, 1);
        t.go(1, 3, 1);
        t.back();
        CHECK.due("stop()", true, t.stop());
        noPlay("behind stop()", t);
        CHECK.due("stop() again", false, t.stop());
        CHECK.due("the board is as told", 2, t.begin(1));
        CHECK.due("the king is where he was told", 5, t.piece(0, 1));
        CHECK.due("laws stay", 4, t.field(0));
        CHECK.due("all of them", 0, t.piece(0, 3));
        CHECK.due("no move is left over", 0, t.about(4));
        CHECK.due("none to do again", false, t.again());
        CHECK.due("none to take back", false, t.back());
    }
}
