/** Promises 1 to 6 at their bounds: the last value taken, the first refused, and that what is refused does nothing. */
public final class BoardEdgesTest {
    private static final int HUGE = Scenes.HUGE;
    private static final int TINY = Scenes.TINY;
    private static final Check CHECK = new Check();

    public static void main(String[] args) {
        newObjectIsEmpty();
        newObjectHasThreeLinesOfThree();
        boardLinesBounds();
        boardFieldsBounds();
        boardRefusedDoesNothing();
        boardEndsWhatWas();
        lineNumberBounds();
        lineLengthBounds();
        lineOfNoSigns();
        lineNumbersOfSigns();
        lineRefusedDoesNothing();
        lineInAPlayDoesNothing();
        lawBounds();
        lawEachTaken();
        lawRefusedDoesNothing();
        lawInAPlayDoesNothing();
        beginSideBounds();
        beginInAPlayDoesNothing();
        beginThatCannot();
        stopWithoutPlay();
        stopInEveryPlay();
        CHECK.end();
    }

    private static void newObjectIsEmpty() {
        KingTable t = new KingTable();
        int[] about = {0, -1, 0, 0, 0, 9, 0, 3, -1};
        for (int what = 0; what < about.length; what++) {
            CHECK.due("new: about(" + what + ")", about[what], t.about(what));
        }
        CHECK.due("new: begin(0)", -1, t.begin(0));
        CHECK.due("new: begin(1)", -1, t.begin(1));
        CHECK.due("new: stop()", false, t.stop());
        CHECK.due("new: back()", false, t.back());
        CHECK.due("new: again()", false, t.again());
        CHECK.due("new: solve()", -1, t.solve());
        CHECK.due("new: a king and a raider alone make it begin", true, t.line(2, 3, Boards.signs("k.r")));
        CHECK.due("new: so nothing else was told", 2, t.begin(0));
        for (int f = 0; f < 9; f++) {
            CHECK.due("new: field " + f + " is plain", 0, t.field(f));
        }
    }

    private static void newObjectHasThreeLinesOfThree() {
        KingTable t = new KingTable();
        CHECK.due("new: line(2, 3, ..)", true, t.line(2, 3, 0));
        CHECK.due("new: line(3, 3, ..)", false, t.line(3, 3, 0));
        CHECK.due("new: line(2, 4, ..)", false, t.line(2, 4, 0));
    }

    private static void boardLinesBounds() {
        KingTable t = new KingTable();
        CHECK.due("2 lines", true, t.board(2, 5));
        CHECK.due("are 2", 2, t.about(7));
        CHECK.due("of 10 fields in all", 10, t.about(5));
        CHECK.due("9 lines", true, t.board(9, 5));
        CHECK.due("are 9", 9, t.about(7));
        CHECK.due("of 45 fields in all", 45, t.about(5));
        for (int lines : new int[] {1, 0, -1, -2, -9, 10, 11, 256 + 3, 65536 + 3, HUGE, HUGE - 1, TINY, TINY + 2}) {
            CHECK.due(lines + " lines", false, t.board(lines, 5));
            CHECK.due("stay 9", 9, t.about(7));
        }
    }

    private static void boardFieldsBounds() {
        KingTable t = new KingTable();
        CHECK.due("2 fields", true, t.board(5, 2));
        CHECK.due("of 10 in all", 10, t.about(5));
        CHECK.due("5 lines", 5, t.about(7));
        CHECK.due("9 fields", true, t.board(5, 9));
        CHECK.due("of 45 in all", 45, t.about(5));
        for (int fields : new int[] {1, 0, -1, -2, -9, 10, 11, 256 + 3, 65536 + 3, HUGE, HUGE - 1, TINY, TINY + 2}) {
            CHECK.due(fields + " fields", false, t.board(5, fields));
            CHECK.due("stay 45", 45, t.about(5));
        }
        CHECK.due("the smallest board", true, t.board(2, 2));
        CHECK.due("has 4 fields", 4, t.about(5));
        CHECK.due("the largest board", true, t.board(9, 9));
        CHECK.due("has 81 fields", 81, t.about(5));
    }

    private static void boardRefusedDoesNothing() {
        int[][] wrong = {
            {1, 3}, {3, 1}, {10, 3}, {3, 10}, {0, 0}, {-3, -3}, {1, 9}, {9, 1}, {1, 1}, {10, 10},
            {HUGE, 3}, {3, HUGE}, {TINY, 3}, {3, TINY}, {HUGE, HUGE}, {TINY, TINY}
        };
        for (Scenes.Scene scene : Scenes.ALL) {
            for (int[] b : wrong) {
                Scenes.nothingDone(CHECK, scene, "board(" + b[0] + ", " + b[1] + ")", Scenes.REFUSED,
                    t -> Scenes.bit(t.board(b[0], b[1])));
            }
        }
    }

    private static void boardEndsWhatWas() {
        for (Scenes.Scene scene : Scenes.ALL) {
            KingTable t = scene.make();
            String where = scene.name() + ", then board(2, 9): ";
            CHECK.due(where, true, t.board(2, 9));
            int[] about = {0, -1, 0, 0, 0, 18, 0, 2, -1};
            for (int what = 0; what < about.length; what++) {
                CHECK.due(where + "about(" + what + ")", about[what], t.about(what));
            }
            CHECK.due(where + "no line is told", -1, t.begin(0));
            CHECK.due(where + "none is solved", -1, t.count(0, 0));
            CHECK.due(where + "nothing on 0", -1, t.on(0));
            CHECK.due(where + "no play to stop", false, t.stop());
            CHECK.due(where + "none to take back", false, t.back());
            CHECK.due(where + "none to do again", false, t.again());
        }
    }

    private static void lineNumberBounds() {
        for (int lines = 2; lines <= 9; lines++) {
            KingTable t = new KingTable();
            t.board(lines, 3);
            CHECK.due("line 0 of " + lines, true, t.line(0, 3, Boards.signs("k.r")));
            CHECK.due("the last line of " + lines, true, t.line(lines - 1, 3, Boards.signs("g..")));
            for (int r : new int[] {-1, -2, lines, lines + 1, 9, 256, 65536, HUGE, TINY, TINY + 1}) {
                if (r >= lines || r < 0) {
                    CHECK.due("line " + r + " of " + lines, false, t.line(r, 3, Boards.signs("ggg")));
                }
            }
            CHECK.due("pieces told on " + lines + " lines", 3, t.begin(0));
            CHECK.due("the one in the last line", lines * 3 - 3, t.piece(2, 1));
        }
    }

    private static void lineLengthBounds() {
        for (int fields = 2; fields <= 9; fields++) {
            KingTable t = new KingTable();
            t.board(2, fields);
            CHECK.due("a line of all " + fields, true, t.line(0, fields, 2 | 3 << 3 * (fields - 1)));
            CHECK.due("a line of 1", true, t.line(1, 1, 1));
            for (int n : new int[] {-1, -2, fields + 1, fields + 2, 10, 11, 256, 65536, HUGE, TINY, TINY + 1}) {
                CHECK.due("a line of " + n + " signs of " + fields, false, t.line(0, n, -1));
            }
            CHECK.due("pieces told on lines of " + fields, 3, t.begin(0));
            CHECK.due("the last sign", fields - 1, t.piece(1, 1));
            CHECK.due("the first one of the next line", fields, t.piece(2, 1));
        }
    }

    private static void lineOfNoSigns() {
        KingTable t = Boards.told("krg", "cg.");
        CHECK.due("a line told as 0 signs", true, t.line(1, 0, Boards.signs("ggg")));
        CHECK.due("isn't told any more", 3, t.begin(0));
        t.stop();
        CHECK.due("told as 1 sign", true, t.line(0, 1, Boards.signs("krg")));
        CHECK.due("it ends there, so no raider is left", -1, t.begin(0));
        CHECK.due("told as 2 signs", true, t.line(0, 2, Boards.signs("krg")));
        CHECK.due("the guard behind them is none", 2, t.begin(0));
        CHECK.due("the field behind the line's end is empty", -1, t.on(2));
        CHECK.due("and plain", 0, t.field(2));
    }

    private static void lineNumbersOfSigns() {
        KingTable t = new KingTable();
        t.board(2, 9);
        t.line(1, 9, Boards.signs("........r"));
        CHECK.due("no sign but 0 in the greatest bits", true, t.line(0, 9, 0xf8000000 | 2));
        CHECK.due("bits behind the ninth sign are nothing", 2, t.begin(0));
        t.stop();
        CHECK.due("the ninth sign", true, t.line(0, 9, 2 << 24));
        t.begin(0);
        CHECK.due("is on the ninth field", 8, t.piece(0, 1));
        t.stop();
        CHECK.due("all bits set: nine kings", true, t.line(0, 9, -1));
        CHECK.due("can't begin", -1, t.begin(0));
        CHECK.due("all bits, but one sign", true, t.line(0, 1, -1));
        CHECK.due("one king", 2, t.begin(0));
        CHECK.due("on his throne", 1, t.field(0));
        t.stop();
        CHECK.due("the greatest number", true, t.line(0, 1, HUGE));
        CHECK.due("ends in a king too", 2, t.begin(0));
        t.stop();
        CHECK.due("the least number", true, t.line(0, 9, TINY));
        CHECK.due("holds no sign", -1, t.begin(0));
    }

    private static void lineRefusedDoesNothing() {
        int[][] wrong = {{-1, 1}, {9, 1}, {HUGE, 1}, {TINY, 1}, {0, -1}, {0, 10}, {0, HUGE}, {0, TINY}, {-1, -1}};
        for (Scenes.Scene scene : Scenes.ALL) {
            int lines = scene.make().about(7);
            int fields = scene.make().about(5) / lines;
            for (int[] w : wrong) {
                Scenes.nothingDone(CHECK, scene, "line(" + w[0] + ", " + w[1] + ", 3)", Scenes.REFUSED,
                    t -> Scenes.bit(t.line(w[0], w[1], 3)));
            }
            Scenes.nothingDone(CHECK, scene, "a line behind the last", Scenes.REFUSED,
                t -> Scenes.bit(t.line(lines, 1, 3)));
            Scenes.nothingDone(CHECK, scene, "a sign more than there are fields", Scenes.REFUSED,
                t -> Scenes.bit(t.line(0, fields + 1, 3)));
        }
    }

    private static void lineInAPlayDoesNothing() {
        for (Scenes.Scene scene : Scenes.IN_PLAY) {
            for (int n = 0; n < 3; n++) {
                int signs = n;
                Scenes.nothingDone(CHECK, scene, "line(0, " + n + ", 3)", Scenes.REFUSED,
                    t -> Scenes.bit(t.line(0, signs, 3)));
                Scenes.nothingDone(CHECK, scene, "line(1, " + n + ", 25)", Scenes.REFUSED,
                    t -> Scenes.bit(t.line(1, signs, 25)));
            }
        }
    }

    private static void lawBounds() {
        KingTable t = new KingTable();
        for (int n : new int[] {-1, -2, 2, 3, 256, 65536, HUGE, TINY, TINY + 1}) {
            CHECK.due("goal " + n, false, t.law(n, 4, true, 0, 0));
            CHECK.due("again " + n, false, t.law(0, 4, true, 0, n));
        }
        for (int n : new int[] {-4, -2, -1, 0, 1, 3, 5, 6, 8, 256 + 2, 65536 + 4, HUGE, TINY, TINY + 2, TINY + 4}) {
            CHECK.due("hard " + n, false, t.law(0, n, true, 0, 0));
        }
        for (int n : new int[] {-1, -2, 9, 10, 256, 65536, HUGE, TINY, TINY + 1}) {
            CHECK.due("reach " + n, false, t.law(0, 4, true, n, 0));
        }
        for (int reach = 0; reach <= 8; reach++) {
            for (int k = 0; k < 16; k++) {
                boolean took = t.law(k & 1, 2 + (k & 2), (k & 4) != 0, reach, k >> 3);
                CHECK.due("laws " + k + ", reach " + reach, true, took);
            }
        }
    }

    /** Each LAW at its least and its greatest, shown by a play. */
    private static void lawEachTaken() {
        KingTable t = new KingTable();
        t.law(0, 4, true, 1, 0);
        Boards.tell(t, "xk.......", "r........");
        t.begin(0);
        CHECK.due("goal 0: a corner", 6, t.field(0));
        CHECK.due("goal 0: not the edge", 0, t.field(1));
        CHECK.due("takes", 1, t.piece(0, 3));
        CHECK.due("reach 1: one", 0, t.why(0, 1, 1));
        CHECK.due("reach 1: not two", 7, t.why(0, 1, 2));
        t.stop();
        t.law(1, 2, false, 8, 1);
        Boards.tell(t, "...", ".k.", "r..");
        t.begin(0);
        CHECK.due("goal 1: the edge", 4, t.field(0));
        CHECK.due("goal 1: not inside", 0, t.field(4));
        CHECK.due("doesn't take", 0, t.piece(0, 3));
        t.stop();
        t.law(0, 2, false, 8, 1);
        Boards.tell(t, "k........", "r........");
        t.begin(0);
        CHECK.due("reach 8: eight", 0, t.why(0, 1, 8));
        t.stop();
        t.law(0, 2, false, 7, 1);
        t.begin(0);
        CHECK.due("reach 7: seven", 0, t.why(0, 1, 7));
        CHECK.due("reach 7: not eight", 7, t.why(0, 1, 8));
        t.stop();
        t.law(0, 2, false, 0, 1);
        t.begin(0);
        CHECK.due("reach 0: eight", 0, t.why(0, 1, 8));
    }

    private static void lawRefusedDoesNothing() {
        int[][] wrong = {
            {-1, 4, 0, 0}, {2, 4, 0, 0}, {HUGE, 2, 5, 1}, {TINY, 2, 5, 1}, {1, 3, 0, 0}, {0, 1, 8, 0}, {0, 5, 8, 0},
            {0, HUGE, 0, 0}, {1, TINY, 0, 1}, {0, 4, -1, 0}, {1, 2, 9, 1}, {0, 4, HUGE, 1}, {0, 2, TINY, 1},
            {0, 4, 0, -1}, {1, 2, 1, 2}, {0, 4, 2, HUGE}, {1, 4, 2, TINY}
        };
        for (Scenes.Scene scene : Scenes.ALL) {
            for (int[] w : wrong) {
                for (int takes = 0; takes < 2; takes++) {
                    boolean kingTakes = takes == 1;
                    Scenes.nothingDone(CHECK, scene, "law(" + w[0] + ", " + w[1] + ", " + kingTakes + ", " + w[2] + ", "
                        + w[3] + ")", Scenes.REFUSED, t -> Scenes.bit(t.law(w[0], w[1], kingTakes, w[2], w[3])));
                }
            }
        }
    }

    private static void lawInAPlayDoesNothing() {
        for (Scenes.Scene scene : Scenes.IN_PLAY) {
            for (int k = 0; k < 16; k++) {
                int law = k;
                Scenes.nothingDone(CHECK, scene, "law number " + k, Scenes.REFUSED,
                    t -> Scenes.bit(t.law(law & 1, 2 + (law & 2), (law & 4) != 0, law / 2, law >> 3)));
            }
        }
    }

    private static void beginSideBounds() {
        for (Scenes.Scene scene : Scenes.ALL) {
            for (int side : new int[] {-1, -2, 2, 3, 256, 65536, HUGE, TINY, TINY + 1}) {
                Scenes.nothingDone(CHECK, scene, "begin(" + side + ")", KingTable.NONE, t -> t.begin(side));
            }
        }
        for (int side = 0; side < 2; side++) {
            KingTable t = Scenes.TOLD.make();
            CHECK.due("begin(" + side + ")", 4, t.begin(side));
            CHECK.due("has it on turn", side, t.about(1));
        }
    }

    private static void beginInAPlayDoesNothing() {
        for (Scenes.Scene scene : Scenes.IN_PLAY) {
            Scenes.nothingDone(CHECK, scene, "begin(0)", KingTable.NONE, t -> t.begin(0));
            Scenes.nothingDone(CHECK, scene, "begin(1)", KingTable.NONE, t -> t.begin(1));
        }
    }

    private static void beginThatCannot() {
        String[][] boards = {
            {"...", "..."}, {"k..", "..."}, {"..r", "..."}, {"g.r", "..c"}, {"kgg", "xt."}, {"k.k", "..r"}, {"k.K", "..r"},
            {"K.K", "..r"}, {"ktt", "..r"}, {"Kt.", "..r"}, {"kkk", "rrr"}
        };
        for (String[] rows : boards) {
            Scenes.Scene scene = Scenes.scene(String.join("/", rows), () -> Boards.told(rows));
            Scenes.nothingDone(CHECK, scene, "begin(0)", KingTable.NONE, t -> t.begin(0));
            Scenes.nothingDone(CHECK, scene, "begin(1)", KingTable.NONE, t -> t.begin(1));
            KingTable t = scene.make();
            t.begin(0);
            CHECK.due(scene.name() + ": lines can be told still", true,
                t.line(0, 3, Boards.signs("k.r")) && t.line(1, 0, 0));
            CHECK.due(scene.name() + ": and it begins then", 2, t.begin(1));
        }
    }

    private static void stopWithoutPlay() {
        for (Scenes.Scene scene : Scenes.WITHOUT_PLAY) {
            Scenes.nothingDone(CHECK, scene, "stop()", Scenes.REFUSED, t -> Scenes.bit(t.stop()));
        }
    }

    private static void stopInEveryPlay() {
        for (Scenes.Scene scene : Scenes.IN_PLAY) {
            KingTable t = scene.make();
            int lines = t.about(7);
            int fields = t.about(5);
            int pieces = t.about(2);
            CHECK.due(scene.name() + ": stop()", true, t.stop());
            int[] about = {0, -1, 0, 0, 0, fields, 0, lines, -1};
            for (int what = 0; what < about.length; what++) {
                CHECK.due(scene.name() + ", stopped: about(" + what + ")", about[what], t.about(what));
            }
            CHECK.due(scene.name() + ": stop() once more", false, t.stop());
            CHECK.due(scene.name() + ": lines can be told", true, t.line(0, 1, 0));
            CHECK.due(scene.name() + ": laws can be told", true, t.law(0, 4, true, 0, 0));
            KingTable same = scene.make();
            same.stop();
            CHECK.due(scene.name() + ": lines have stayed", pieces, same.begin(0));
        }
    }
}
