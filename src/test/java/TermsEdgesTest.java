import java.util.Arrays;

/** The bounds that stand in the Terms, a sentence each; those of SOLVED boards are in SolveEdgesTest. */
public final class TermsEdgesTest {
    private static final int UP = Scenes.UP;
    private static final int RIGHT = Scenes.RIGHT;
    private static final int DOWN = Scenes.DOWN;
    private static final int LEFT = Scenes.LEFT;
    private static final int NONE = KingTable.NONE;
    private static final Check CHECK = new Check();

    public static void main(String[] args) {
        fieldsAreNumberedLineByLine();
        lineThatIsNotTold();
        lineThatEnds();
        eachSign();
        justOneKing();
        oneRaiderOrCaptainAtLeast();
        fortyPiecesAtMost();
        oneThroneAtMost();
        cornersAnywhere();
        piecesAreNumberedByFields();
        sidesOfKinds();
        whatBears();
        asFarAsItLikes();
        reachOfTheKing();
        goalAtACorner();
        goalAtTheEdge();
        lawsAtFirst();
        edgeIsNoFoe();
        cornerIsAFoeIfEmpty();
        throneIsNoFoe();
        kingWhoDoesNotTakeIsNoFoe();
        hardTwoAndFour();
        captainFromFourSides();
        standThatComesBack();
        standThatComesBackRefused();
        endKingTakenBeforeCannotGo();
        endGoalBeforeCannotGo();
        endCannotGo();
        refusedMovesAreAWayToGo();
        beginsWithAnEnd();
        CHECK.end();
    }

    private static KingTable lawful(int goal, int hard, boolean takes, int reach, int again, String... rows) {
        KingTable t = new KingTable();
        t.law(goal, hard, takes, reach, again);
        Boards.tell(t, rows);
        return t;
    }

    private static String[] empty(int lines, int fields) {
        String[] rows = new String[lines];
        Arrays.fill(rows, ".".repeat(fields));
        return rows;
    }

    private static void fieldsAreNumberedLineByLine() {
        int[][] sizes = {{2, 2}, {2, 9}, {9, 2}, {9, 9}, {3, 4}};
        for (int[] s : sizes) {
            KingTable t = new KingTable();
            t.board(s[0], s[1]);
            t.line(0, 1, 2);
            t.line(s[0] - 1, s[1], 3 << 3 * (s[1] - 1));
            t.begin(0);
            String where = s[0] + " x " + s[1] + ": ";
            CHECK.due(where + "the first field", 0, t.piece(0, 1));
            CHECK.due(where + "the last field", s[0] * s[1] - 1, t.piece(1, 1));
            CHECK.due(where + "to the end of the first line", 0, t.go(0, RIGHT, s[1] - 1));
            CHECK.due(where + "its number", s[1] - 1, t.piece(0, 1));
            CHECK.due(where + "to the start of the last line", 0, t.go(1, LEFT, s[1] - 1));
            CHECK.due(where + "its number", s[0] * s[1] - s[1], t.piece(1, 1));
        }
    }

    private static void lineThatIsNotTold() {
        KingTable t = new KingTable();
        t.board(4, 3);
        t.line(1, 3, Boards.signs("k.r"));
        CHECK.due("pieces of the one line told", 2, t.begin(0));
        for (int f = 0; f < 12; f++) {
            boolean told = f == 3 || f == 5;
            CHECK.due("whether something is on " + f, told, t.on(f) != NONE);
            CHECK.due("plain is " + f, 0, t.field(f));
        }
    }

    private static void lineThatEnds() {
        KingTable t = new KingTable();
        t.board(2, 5);
        t.line(0, 5, Boards.signs("krgxt"));
        for (int n = 2; n <= 5; n++) {
            t.line(0, n, Boards.signs("krgxt"));
            CHECK.due("pieces of " + n + " signs", Math.min(n, 3), t.begin(0));
            CHECK.due("a corner among them", n > 3 ? 6 : 0, t.field(3));
            CHECK.due("a throne among them", n > 4 ? 1 : 0, t.field(4));
            t.stop();
        }
        t.line(0, 2, Boards.signs("krgxt"));
        t.begin(0);
        CHECK.due("what a longer line told is gone", 0, t.field(3));
    }

    private static void eachSign() {
        int[] kinds = {NONE, 1, 2, 3, 4, NONE, NONE, 2};
        int[] fields = {0, 0, 0, 0, 0, 1, 6, 1};
        for (int sign = 0; sign < 8; sign++) {
            KingTable t = new KingTable();
            t.line(0, 1, sign);
            t.line(2, 3, kinds[sign] == 2 ? Boards.signs("..r") : Boards.signs("k.r"));
            CHECK.due("begins with sign " + sign, true, t.begin(0) >= 2);
            CHECK.due("field of sign " + sign, fields[sign], t.field(0));
            CHECK.due("whether sign " + sign + " is a piece", kinds[sign] == NONE ? NONE : 0, t.on(0));
            if (kinds[sign] != NONE) {
                CHECK.due("kind of sign " + sign, kinds[sign], t.piece(0, 0));
            }
        }
    }

    private static void justOneKing() {
        CHECK.due("no king", NONE, Boards.told("g.r", "...").begin(0));
        CHECK.due("one king", 2, Boards.told("k.r", "...").begin(0));
        CHECK.due("one king on the throne", 2, Boards.told("K.r", "...").begin(0));
        CHECK.due("two kings", NONE, Boards.told("k.r", "..k").begin(0));
        CHECK.due("one of two on the throne", NONE, Boards.told("K.r", "..k").begin(0));
        CHECK.due("two kings on thrones", NONE, Boards.told("K.r", "..K").begin(0));
        CHECK.due("three kings", NONE, Boards.told("kkr", "..k").begin(1));
    }

    private static void oneRaiderOrCaptainAtLeast() {
        CHECK.due("neither", NONE, Boards.told("kg.", "g..").begin(0));
        CHECK.due("a raider", 3, Boards.told("kg.", "r..").begin(0));
        CHECK.due("a captain", 3, Boards.told("kg.", "c..").begin(0));
        CHECK.due("both", 4, Boards.told("kg.", "rc.").begin(0));
        CHECK.due("no guard is needed", 2, Boards.told("k..", "r..").begin(0));
    }

    /** So many pieces on 9 x 9, the king first, a raider behind him, then of one kind. */
    private static KingTable crowd(int pieces, char kind) {
        char[] signs = ".".repeat(81).toCharArray();
        for (int p = 0; p < pieces; p++) {
            signs[p] = p == 0 ? 'k' : p == 1 ? 'r' : kind;
        }
        String[] rows = new String[9];
        for (int r = 0; r < 9; r++) {
            rows[r] = new String(signs, 9 * r, 9);
        }
        return Boards.told(rows);
    }

    private static void fortyPiecesAtMost() {
        for (char kind : new char[] {'g', 'r', 'c'}) {
            CHECK.due("39 pieces", 39, crowd(39, kind).begin(1));
            CHECK.due("40 pieces", 40, crowd(40, kind).begin(1));
            CHECK.due("41 pieces", NONE, crowd(41, kind).begin(1));
            CHECK.due("42 pieces", NONE, crowd(42, kind).begin(0));
            CHECK.due("81 pieces", NONE, crowd(81, kind).begin(0));
        }
        KingTable t = crowd(40, 'c');
        t.begin(1);
        CHECK.due("the last piece", 39, t.piece(39, 1));
        CHECK.due("goes", 0, t.go(39, DOWN, 1));
        CHECK.due("and is there", 39, t.on(48));
        CHECK.due("one more", NONE, t.piece(40, 0));
        t = crowd(41, 'c');
        t.begin(1);
        CHECK.due("41: no play", 0, t.about(0));
        CHECK.due("41: a piece less", true, t.line(4, 4, Boards.signs("cccc")));
        CHECK.due("makes 40", 40, t.begin(1));
    }

    private static void oneThroneAtMost() {
        CHECK.due("no throne", 2, Boards.told("k.r", "...").begin(0));
        CHECK.due("one", 2, Boards.told("k.r", ".t.").begin(0));
        CHECK.due("one, the king on it", 2, Boards.told("K.r", "...").begin(0));
        CHECK.due("two", NONE, Boards.told("ktr", ".t.").begin(0));
        CHECK.due("two, the king on one", NONE, Boards.told("K.r", ".t.").begin(0));
        CHECK.due("four", NONE, Boards.told("ktr", "ttt").begin(0));
    }

    private static void cornersAnywhere() {
        CHECK.due("no corner", 2, Boards.told("k.r", "...").begin(0));
        CHECK.due("on all other fields", 2, Boards.told("kxr", "xxx").begin(0));
        CHECK.due("in the middle", 2, Boards.told("k.r", ".x.", "...").begin(0));
        String[] rows = new String[9];
        Arrays.fill(rows, "xxxxxxxxx");
        rows[4] = "xxxxkrxxx";
        KingTable t = Boards.told(rows);
        CHECK.due("79 of them", 2, t.begin(0));
        CHECK.due("the last field is one", 6, t.field(80));
    }

    private static void piecesAreNumberedByFields() {
        KingTable t = Boards.told("r.c", ".k.", "g.r");
        t.begin(1);
        int[] fields = {0, 2, 4, 6, 8};
        int[] kinds = {3, 4, 2, 1, 3};
        for (int p = 0; p < 5; p++) {
            CHECK.due("field of " + p, fields[p], t.piece(p, 1));
            CHECK.due("kind of " + p, kinds[p], t.piece(p, 0));
        }
        CHECK.due("a piece goes before another", 0, t.go(4, UP, 1));
        CHECK.due("and keeps its number", 4, t.on(5));
    }

    private static void sidesOfKinds() {
        for (int side = 0; side < 2; side++) {
            KingTable t = Boards.told("g..k", "....", "r..c");
            t.begin(side);
            CHECK.due("a guard's turn at side " + side, side == 0 ? 0 : 4, t.why(0, RIGHT, 1));
            CHECK.due("the king's turn at side " + side, side == 0 ? 0 : 4, t.why(1, LEFT, 1));
            CHECK.due("a raider's turn at side " + side, side == 1 ? 0 : 4, t.why(2, RIGHT, 1));
            CHECK.due("a captain's turn at side " + side, side == 1 ? 0 : 4, t.why(3, LEFT, 1));
        }
    }

    private static void whatBears() {
        for (char place : new char[] {'t', 'x'}) {
            for (char kind : new char[] {'g', 'r', 'c', 'k'}) {
                KingTable t = Boards.told("" + kind + place + ".", "...", kind == 'k' ? "..r" : kind == 'g' ? "r.k" : "..k");
                t.begin(kind == 'g' || kind == 'k' ? 0 : 1);
                String where = kind + " and " + place + ": ";
                CHECK.due(where + "onto it", kind == 'k' ? 0 : 9, t.why(0, RIGHT, 1));
                CHECK.due(where + "over it", kind == 'k' ? 0 : 9, t.why(0, RIGHT, 2));
                CHECK.due(where + "its moves", kind == 'k' ? 4 : kind == 'g' ? 1 : 2, t.piece(0, 2));
            }
        }
    }

    private static void asFarAsItLikes() {
        for (char kind : new char[] {'g', 'r', 'c', 'k'}) {
            String[] rows = empty(9, 9);
            rows[0] = kind + "........";
            rows[8] = kind == 'k' ? "........r" : kind == 'g' ? ".......kr" : "........k";
            KingTable t = Boards.told(rows);
            t.begin(kind == 'g' || kind == 'k' ? 0 : 1);
            CHECK.due(kind + ": eight to the right", 0, t.why(0, RIGHT, 8));
            CHECK.due(kind + ": nine", 6, t.why(0, RIGHT, 9));
            CHECK.due(kind + ": eight down", 0, t.why(0, DOWN, 8));
            CHECK.due(kind + ": nine", 6, t.why(0, DOWN, 9));
            CHECK.due(kind + ": one up", 6, t.why(0, UP, 1));
            CHECK.due(kind + ": one to the left", 6, t.why(0, LEFT, 1));
            CHECK.due(kind + ": its moves", 16, t.piece(0, 2));
            CHECK.due(kind + ": goes eight", 0, t.go(0, DOWN, 8));
            CHECK.due(kind + ": to the last line", 72, t.piece(0, 1));
        }
    }

    private static void reachOfTheKing() {
        for (int reach = 0; reach <= 8; reach++) {
            KingTable t = lawful(0, 4, true, reach, 0, "k........", "r.......g");
            t.begin(0);
            int last = reach == 0 ? 8 : reach;
            CHECK.due("reach " + reach + ": moves", last, t.piece(0, 2));
            CHECK.due("reach " + reach + ": one more", last == 8 ? 6 : 7, t.why(0, RIGHT, last + 1));
            CHECK.due("reach " + reach + ": a guard's moves", 8, t.piece(2, 2));
            CHECK.due("reach " + reach + ": goes so far", 0, t.go(0, RIGHT, last));
            CHECK.due("reach " + reach + ": is there", last, t.piece(0, 1));
        }
        KingTable t = lawful(0, 4, true, 1, 0, "gk.", "r..");
        t.begin(0);
        CHECK.due("the least reach is a way to go", 2, t.piece(1, 2));
    }

    private static void goalAtACorner() {
        KingTable t = Boards.told("x..", "...", "k.r");
        t.begin(0);
        CHECK.due("a corner", 6, t.field(0));
        for (int f = 1; f < 9; f++) {
            CHECK.due("none is " + f, 0, t.field(f));
        }
        CHECK.due("beside it", 0, t.go(0, UP, 1));
        CHECK.due("it goes on", 1, t.about(0));
        t.back();
        CHECK.due("onto it", 0, t.go(0, UP, 2));
        CHECK.due("won by side 0", 2, t.about(0));
        t = Boards.told("....", ".kx.", "...r");
        t.begin(0);
        CHECK.due("a corner inside is a goal", 6, t.field(6));
        t.go(0, RIGHT, 1);
        CHECK.due("won by side 0 inside", 2, t.about(0));
        t = Boards.told("kx..", "...r");
        t.begin(0);
        t.go(0, RIGHT, 2);
        CHECK.due("over a corner is no goal", 1, t.about(0));
    }

    private static void goalAtTheEdge() {
        for (int lines = 2; lines <= 9; lines++) {
            for (int fields = 2; fields <= 9; fields++) {
                String[] rows = empty(lines, fields);
                rows[0] = "kr" + rows[0].substring(2);
                KingTable t = lawful(1, 4, true, 0, 0, rows);
                t.begin(0);
                for (int f = 0; f < lines * fields; f++) {
                    int r = f / fields;
                    int c = f % fields;
                    boolean edge = Math.min(r, lines - 1 - r) == 0 || Math.min(c, fields - 1 - c) == 0;
                    CHECK.due(lines + " x " + fields + ": field(" + f + ")", edge ? 4 : 0, t.field(f));
                }
            }
        }
        KingTable t = lawful(1, 4, true, 0, 0, "....", ".k..", "...r", "....");
        t.begin(0);
        CHECK.due("a step inside", 0, t.go(0, RIGHT, 1));
        CHECK.due("it goes on", 1, t.about(0));
        t.back();
        CHECK.due("to the edge", 0, t.go(0, RIGHT, 2));
        CHECK.due("won by side 0", 2, t.about(0));
        t = lawful(1, 4, true, 0, 0, "....", ".kx.", "...r", "....");
        t.begin(0);
        t.go(0, RIGHT, 1);
        CHECK.due("a corner inside is none then", 1, t.about(0));
    }

    private static void lawsAtFirst() {
        KingTable t = Boards.told("x........", "k........", ".........", "r........");
        t.begin(0);
        CHECK.due("goal 0", 6, t.field(0));
        CHECK.due("goal 0", 0, t.field(9));
        CHECK.due("he takes", 1, t.piece(0, 3));
        CHECK.due("reach 0", 0, t.why(0, RIGHT, 8));
        t = Boards.told(".....", ".rk..", "...r.");
        t.begin(1);
        CHECK.due("hard 4", 0, t.go(2, UP, 1));
        CHECK.due("again 0", 4, Scenes.DRAWN.make().about(0));
    }

    private static void edgeIsNoFoe() {
        KingTable t = Boards.told("g.r", "...", "k..");
        t.begin(1);
        CHECK.due("a guard at the edge", 0, t.go(1, LEFT, 1));
        t = Boards.told("r.g", "...", "k.r");
        t.begin(0);
        CHECK.due("a raider at the edge", 0, t.go(1, LEFT, 1));
        t = lawful(0, 2, true, 0, 0, "k.r", "...", "g..");
        t.begin(1);
        CHECK.due("a king of hard 2 in the board's nook", 0, t.go(1, LEFT, 1));
        t = Boards.told("rkr", "...", "gr.");
        t.begin(1);
        CHECK.due("a king of hard 4 at the edge", 0, t.go(4, UP, 1));
        t = Boards.told("gcg", "...", "kg.");
        t.begin(0);
        CHECK.due("a captain at the edge", 0, t.go(4, UP, 1));
        t = Boards.told("..c", "g..", "k.g");
        t.begin(0);
        CHECK.due("a captain in the nook, from below", 0, t.go(3, UP, 1));
        // Fields 2 and 3 are beside each other by number, but not on the board.
        t = Boards.told(".rg", "r..", "k.r");
        t.begin(1);
        CHECK.due("no foe around the board's edge", 0, t.go(4, UP, 1));
        t = Boards.told("..r", "g..", ".r.", "k..");
        t.begin(1);
        CHECK.due("nor the other way", 0, t.go(2, UP, 1));
    }

    private static void cornerIsAFoeIfEmpty() {
        KingTable t = Boards.told("xg.r", "....", "k...");
        t.begin(1);
        CHECK.due("of a guard", 1, t.go(1, LEFT, 1));
        t = Boards.told("xr.g", "....", "k..r");
        t.begin(0);
        CHECK.due("of a raider", 1, t.go(1, LEFT, 1));
        t = lawful(0, 2, true, 0, 0, "xk.r", "....", "....");
        t.begin(1);
        CHECK.due("of a king of hard 2", 1, t.go(1, LEFT, 1));
        t = Boards.told(".x.", "xkx", "...", ".r.");
        t.begin(1);
        CHECK.due("of a king of hard 4, three of them", 1, t.go(1, UP, 1));
        t = Boards.told(".x.", "xcx", "...", "kg.");
        t.begin(0);
        CHECK.due("of a captain, three of them", 1, t.go(2, UP, 1));
        t = lawful(1, 4, true, 0, 0, ".....", ".kxg.", ".....", "....r");
        t.begin(1);
        CHECK.due("of a guard inside", 1, t.go(2, UP, 2));
        t.stop();
        t.begin(0);
        t.go(0, RIGHT, 1);
        CHECK.due("held by the guard's own king it's none", 0, t.go(2, UP, 2));
    }

    private static void throneIsNoFoe() {
        KingTable t = Boards.told("tg.r", "....", "k...");
        t.begin(1);
        CHECK.due("of a guard", 0, t.go(1, LEFT, 1));
        t = Boards.told("tr.g", "....", "k..r");
        t.begin(0);
        CHECK.due("of a raider", 0, t.go(1, LEFT, 1));
        t = lawful(0, 2, true, 0, 0, "tk.r", "....", "....");
        t.begin(1);
        CHECK.due("of a king", 0, t.go(1, LEFT, 1));
        t = Boards.told("Kr.g", "...r", "....");
        t.begin(0);
        CHECK.due("but the king on it is one", 1, t.go(2, LEFT, 1));
    }

    private static void kingWhoDoesNotTakeIsNoFoe() {
        for (int takes = 0; takes < 2; takes++) {
            KingTable t = lawful(0, 4, takes == 1, 0, 0, "kr.g", "...r", "....");
            t.begin(0);
            CHECK.due("beside a guard who goes", takes, t.go(2, LEFT, 1));
            t = lawful(0, 4, takes == 1, 0, 0, "gr.k", "...r", "....");
            t.begin(0);
            CHECK.due("as the one who goes", takes, t.go(2, LEFT, 1));
            t = lawful(0, 4, takes == 1, 0, 0, "xr.k", "...r", "....");
            t.begin(0);
            CHECK.due("as the one who goes, against a corner", takes, t.go(1, LEFT, 1));
        }
    }

    private static void hardTwoAndFour() {
        String[] two = {".....", ".rk..", "...r.", "....."};
        String[] three = {"..r..", ".rk..", "...r.", "....."};
        String[] four = {"..r..", ".rk..", "..rr.", "....."};
        for (int hard = 2; hard <= 4; hard += 2) {
            int mover = 2;
            for (String[] rows : new String[][] {two, three, four}) {
                KingTable t = lawful(0, hard, true, 0, 0, rows);
                int pieces = t.begin(1);
                boolean taken = hard == 2 || rows == four;
                CHECK.due("hard " + hard + ", from " + mover + " sides", taken ? 1 : 0, t.go(pieces - 1, UP, 1));
                CHECK.due("hard " + hard + ", from " + mover + " sides: won by side 1", taken ? 3 : 1, t.about(0));
                mover++;
            }
        }
        KingTable t = lawful(0, 2, true, 0, 0, "..r..", "..k..", "...r.", ".....");
        t.begin(1);
        CHECK.due("hard 2: two sides around a bend", 0, t.go(2, UP, 1));
    }

    private static void captainFromFourSides() {
        for (int hard = 2; hard <= 4; hard += 2) {
            KingTable t = lawful(0, hard, true, 0, 0, "..g..", ".gc..", "..gg.", "k...r");
            t.begin(0);
            CHECK.due("from four", 1, t.go(4, UP, 1));
            t = lawful(0, hard, true, 0, 0, ".....", ".gc..", "..gg.", "k...r");
            t.begin(0);
            CHECK.due("from three", 0, t.go(3, UP, 1));
            t = lawful(0, hard, true, 0, 0, ".....", ".gc..", "...g.", "k...r");
            t.begin(0);
            CHECK.due("from two", 0, t.go(2, UP, 1));
        }
    }

    private static void shuttle(KingTable t, int moves) {
        int[] ways = {RIGHT, LEFT, LEFT, RIGHT};
        for (int i = 0; i < moves; i++) {
            t.go(i % 2, ways[i % 4], 1);
        }
    }

    private static void standThatComesBack() {
        for (int moves = 0; moves < 4; moves++) {
            KingTable t = Boards.told("k..", "...", "..r");
            t.begin(0);
            shuttle(t, moves);
            CHECK.due("it goes on behind " + moves, 1, t.about(0));
        }
        KingTable t = Boards.told("k..", "...", "..r");
        t.begin(0);
        shuttle(t, 4);
        CHECK.due("the first stand of the play counts", 4, t.about(0));
        CHECK.due("the move was done", 4, t.about(4));
        t = Boards.told("k..", "...", "..r");
        t.begin(0);
        t.go(0, RIGHT, 1);
        t.go(1, LEFT, 1);
        t.go(0, RIGHT, 1);
        t.go(1, RIGHT, 1);
        t.go(0, LEFT, 2);
        CHECK.due("the fields of the first stand, but another turn", 1, t.about(0));
        t.stop();
        t.begin(0);
        t.go(0, RIGHT, 1);
        CHECK.due("stands of the play before don't count", 1, t.about(0));
        t = Boards.told(".k.", "g..", "..r");
        t.begin(0);
        t.go(0, RIGHT, 1);
        t.go(2, LEFT, 1);
        t.go(0, LEFT, 1);
        CHECK.due("the raider comes back", 0, t.go(2, RIGHT, 1));
        CHECK.due("and with him the stand", 4, t.about(0));
        t.stop();
        t.begin(0);
        t.go(0, RIGHT, 1);
        t.go(2, LEFT, 1);
        t.go(0, LEFT, 1);
        t.go(2, LEFT, 1);
        t.go(1, UP, 1);
        CHECK.due("the king and the raider where they were", 0, t.go(2, RIGHT, 2));
        CHECK.due("but a guard elsewhere", 1, t.about(0));
        t = Boards.told(".g.", "k..", "..r");
        t.begin(0);
        t.go(1, RIGHT, 1);
        t.go(2, LEFT, 1);
        t.go(1, LEFT, 1);
        t.go(2, RIGHT, 1);
        CHECK.due("a guard has stood by all the while", 4, t.about(0));
        t = lawful(0, 4, false, 0, 0, ".k.", "g..", "..r");
        t.begin(1);
        t.go(2, LEFT, 1);
        t.go(0, RIGHT, 1);
        t.go(2, RIGHT, 1);
        t.go(0, LEFT, 1);
        CHECK.due("brought back by a king who doesn't take", 4, t.about(0));
    }

    private static void standThatComesBackRefused() {
        KingTable t = lawful(0, 4, true, 0, 1, "k..", "...", "..r");
        t.begin(0);
        shuttle(t, 4);
        CHECK.due("the fourth isn't done", 3, t.about(4));
        CHECK.due("it goes on", 1, t.about(0));
        CHECK.due("side 1 is on turn still", 1, t.about(1));
        CHECK.due("refused to the one who would bring it back", 10, t.why(1, RIGHT, 1));
        CHECK.due("another move is not", 0, t.go(1, UP, 1));
    }

    private static void endKingTakenBeforeCannotGo() {
        KingTable t = lawful(0, 2, true, 0, 0, "rk..", "..r.");
        t.begin(1);
        t.go(2, UP, 1);
        CHECK.due("the king is taken, side 0 has none left to go: won by side 1", 3, t.about(0));
        t = lawful(0, 2, true, 0, 0, "rk..", "..r.", "g...");
        t.begin(1);
        CHECK.due("a king whose guard could go on", 1, t.go(2, UP, 1));
        CHECK.due("has lost all the same", 3, t.about(0));
        CHECK.due("and the guard doesn't go", 1, t.why(3, RIGHT, 1));
        t = lawful(0, 2, true, 0, 0, "gk.r", "x...", "....");
        t.begin(1);
        CHECK.due("his guard stays beside him", 0, t.go(2, LEFT, 1));
        CHECK.due("it goes on", 1, t.about(0));
    }

    private static void endGoalBeforeCannotGo() {
        KingTable t = lawful(1, 4, true, 0, 0, "kr", "r.");
        CHECK.due("begins", 3, t.begin(0));
        CHECK.due("a king on a goal who can't go has won", 2, t.about(0));
        t = lawful(1, 4, true, 0, 0, "kr", "r.");
        t.begin(1);
        CHECK.due("with side 1 on turn too", 2, t.about(0));
        t = lawful(0, 4, true, 0, 0, "kr", "r.");
        t.begin(0);
        CHECK.due("where it's no goal he has lost", 3, t.about(0));
    }

    private static void endCannotGo() {
        KingTable t = Boards.told("k.r", "r..");
        t.begin(1);
        CHECK.due("a raider shuts the king in", 0, t.go(1, LEFT, 1));
        CHECK.due("won by side 1", 3, t.about(0));
        t = Boards.told("r.g", "k..");
        t.begin(0);
        CHECK.due("a guard shuts the raider in", 0, t.go(1, LEFT, 1));
        CHECK.due("won by side 0", 2, t.about(0));
        t = Boards.told("k.rg", "r...");
        t.begin(1);
        t.go(1, LEFT, 1);
        CHECK.due("a guard who can go is enough", 1, t.about(0));
        t = Boards.told("rx", "xk");
        t.begin(1);
        CHECK.due("fields that don't bear it are no way to go", 2, t.about(0));
    }

    private static void refusedMovesAreAWayToGo() {
        KingTable t = lawful(0, 4, true, 0, 1, "k.", ".r");
        t.begin(0);
        t.go(0, RIGHT, 1);
        t.go(1, LEFT, 1);
        t.go(0, LEFT, 1);
        CHECK.due("its only move is refused", 10, t.why(1, RIGHT, 1));
        CHECK.due("up the king is", 8, t.why(1, UP, 1));
        CHECK.due("it counts as one", 1, t.piece(1, 2));
        CHECK.due("so the play goes on", 1, t.about(0));
        CHECK.due("with side 1 on turn", 1, t.about(1));
    }

    private static void beginsWithAnEnd() {
        KingTable t = lawful(1, 4, true, 0, 0, "k..", "..r");
        CHECK.due("the king on a goal: begins", 2, t.begin(1));
        CHECK.due("won by side 0", 2, t.about(0));
        CHECK.due("nobody is on turn", NONE, t.about(1));
        CHECK.due("no latest move", NONE, t.about(8));
        CHECK.due("none to take back", false, t.back());
        CHECK.due("nobody goes", NONE, t.go(1, LEFT, 1));
        CHECK.due("it's over", 1, t.why(1, LEFT, 1));
        CHECK.due("no line can be told", false, t.line(0, 0, 0));
        CHECK.due("it can be stopped", true, t.stop());
        t = Boards.told("kr.", "r..");
        CHECK.due("side 0 can't go: begins", 3, t.begin(0));
        CHECK.due("won by side 1", 3, t.about(0));
        t.stop();
        t.begin(1);
        CHECK.due("side 1 can: it goes on", 1, t.about(0));
        t = Boards.told("rg.", "k..");
        CHECK.due("side 1 can't go: begins", 3, t.begin(1));
        CHECK.due("won by side 0", 2, t.about(0));
        t.stop();
        t.begin(0);
        CHECK.due("side 0 can: it goes on", 1, t.about(0));
    }
}
