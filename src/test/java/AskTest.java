/** Promises 9 to 12, 14 and 15: about, piece, on, field, ring, needed. */
public final class AskTest {
    private static final int UP = 0;
    private static final int RIGHT = 1;
    private static final int DOWN = 2;
    private static final int LEFT = 3;
    private static final int[] OUTSIDE = {-1, -2, 81, 1000, Integer.MAX_VALUE, Integer.MIN_VALUE};
    private static final Check CHECK = new Check();

    public static void main(String[] args) {
        about();
        piece();
        on();
        field();
        ringAroundTheKing();
        ringIsOfRaiders();
        ringAndGoals();
        ringOnlyInAPlay();
        neededOnes();
        CHECK.end();
    }

    private static void about() {
        KingTable t = Boards.told("k....", ".rg..", "...r.", "....x");
        t.begin(1);
        int[] begun = {1, 1, 4, 0, 0, 20, 0, 4, -1};
        same("begun", begun, t);
        t.go(3, UP, 1);
        int[] taken = {1, 0, 4, 1, 1, 20, 0, 4, 1};
        same("a guard is taken", taken, t);
        t.go(0, RIGHT, 1);
        int[] gone = {1, 1, 4, 1, 2, 20, 0, 4, 0};
        same("the king has gone", gone, t);
        t.back();
        int[] back = {1, 0, 4, 1, 1, 20, 1, 4, 1};
        same("that's taken back", back, t);
        t.back();
        int[] first = {1, 1, 4, 0, 0, 20, 2, 4, -1};
        same("all is taken back", first, t);
        t.stop();
        int[] none = {0, -1, 0, 0, 0, 20, 0, 4, -1};
        same("no play", none, t);
        CHECK.due("about(9)", -1, t.about(9));
        for (int what : OUTSIDE) {
            CHECK.due("about(" + what + ")", -1, t.about(what));
        }
    }

    private static void same(String where, int[] due, KingTable t) {
        for (int what = 0; what < due.length; what++) {
            CHECK.due(where + ": about(" + what + ")", due[what], t.about(what));
        }
    }

    private static void piece() {
        KingTable t = Boards.told("g.c.", "..k.", "r.t.", "...x");
        t.begin(0);
        int[][] due = {{1, 0, 2, 1}, {4, 2, 0, 1}, {2, 6, 5, 1}, {3, 8, 0, 1}};
        for (int p = 0; p < due.length; p++) {
            for (int what = 0; what < 4; what++) {
                CHECK.due("piece(" + p + ", " + what + ")", due[p][what], t.piece(p, what));
            }
            CHECK.due("piece(" + p + ", 4)", -1, t.piece(p, 4));
        }
        CHECK.due("piece(4, 0)", -1, t.piece(4, 0));
        for (int odd : OUTSIDE) {
            CHECK.due("piece(" + odd + ", 0)", -1, t.piece(odd, 0));
            CHECK.due("piece(" + odd + ", 2)", -1, t.piece(odd, 2));
            CHECK.due("piece(0, " + odd + ")", -1, t.piece(0, odd));
        }
        t.go(2, LEFT, 1);
        CHECK.due("the king's moves when it's not his turn", 0, t.piece(2, 2));
        CHECK.due("the raider's: two to the side of the throne, up and down", 3, t.piece(3, 2));
        CHECK.due("the captain's: left one, right one, down one", 3, t.piece(1, 2));
    }

    private static void on() {
        KingTable t = Boards.told("g.k", "..r");
        CHECK.due("on() without a play", -1, t.on(0));
        t.begin(1);
        int[] due = {0, -1, 1, -1, -1, 2, -1};
        for (int f = 0; f < due.length; f++) {
            CHECK.due("on(" + f + ")", due[f], t.on(f));
        }
        for (int f : OUTSIDE) {
            CHECK.due("on(" + f + ")", -1, t.on(f));
        }
        t.go(2, LEFT, 1);
        CHECK.due("the field it left", -1, t.on(5));
        CHECK.due("the field it went to", 2, t.on(4));
    }

    private static void field() {
        KingTable t = Boards.told("x...", ".xk.", "..tr", "...x");
        CHECK.due("field() without a play", -1, t.field(0));
        t.begin(0);
        int[] corners = {6, 0, 0, 0, 0, 6, 0, 0, 0, 0, 1, 0, 0, 0, 0, 6, -1};
        for (int f = 0; f < corners.length; f++) {
            CHECK.due("goal 0: field(" + f + ")", corners[f], t.field(f));
        }
        for (int f : OUTSIDE) {
            CHECK.due("field(" + f + ")", -1, t.field(f));
        }
        t.stop();
        t.law(1, 4, true, 0, 0);
        t.begin(0);
        int[] edges = {6, 4, 4, 4, 4, 2, 0, 4, 4, 0, 1, 4, 4, 4, 4, 6, -1};
        for (int f = 0; f < edges.length; f++) {
            CHECK.due("goal 1: field(" + f + ")", edges[f], t.field(f));
        }
        t.board(3, 3);
        CHECK.due("field() behind board()", -1, t.field(0));
        Boards.tell(t, "t..", ".k.", "..r");
        t.begin(0);
        CHECK.due("a throne at the edge", 5, t.field(0));
    }

    private static KingTable edges(String... rows) {
        KingTable t = new KingTable();
        t.law(1, 4, true, 0, 0);
        Boards.tell(t, rows);
        t.begin(1);
        return t;
    }

    private static void ringAroundTheKing() {
        KingTable t = edges(
            ".....",
            "..r..",
            ".rkr.",
            "..r..",
            ".....");
        CHECK.due("raiders on his four sides", true, t.ring());
        t = edges(
            "..r..",
            ".r.r.",
            "r.k.r",
            ".r.r.",
            "..r..");
        CHECK.due("a wider ring", true, t.ring());
        t = edges(
            "..r..",
            ".r.r.",
            "r.k.r",
            ".r...",
            "..r..");
        CHECK.due("with a gap", false, t.ring());
        t = edges(
            "..c..",
            ".r.r.",
            "r.t.c",
            ".rkr.",
            "..r..");
        CHECK.due("captains, and a throne inside", true, t.ring());
        t = edges(
            ".....",
            "..t..",
            ".rkr.",
            "..r..",
            ".....");
        CHECK.due("the king goes over his throne", false, t.ring());
        t = edges(
            ".....",
            "..x..",
            ".rkr.",
            "..r..",
            ".....");
        CHECK.due("and over a corner", false, t.ring());
    }

    /** The document tells no more of a ring: we take it as one of pieces of side 1, so guards are no part of it. */
    private static void ringIsOfRaiders() {
        KingTable t = edges(
            ".....",
            "..g..",
            ".rkr.",
            "..r..",
            ".....");
        CHECK.due("a guard doesn't hold him in", false, t.ring());
        t = edges(
            "..r..",
            ".rgr.",
            ".rkr.",
            "..r..",
            ".....");
        CHECK.due("raiders around him and his guard do", true, t.ring());
        t = edges(
            "..g..",
            ".rkr.",
            "..r..");
        CHECK.due("nor does a guard on a goal", false, t.ring());
    }

    private static void ringAndGoals() {
        KingTable t = Boards.told("k..", "...", "..r");
        t.begin(0);
        CHECK.due("no goals: he can't come to one", true, t.ring());
        CHECK.due("and no raider is needed for that", false, t.needed(1));
        t = Boards.told("xr..", "r...", "..k.", "....");
        t.begin(0);
        CHECK.due("the only corner is shut off", true, t.ring());
        CHECK.due("by the one raider", true, t.needed(0));
        CHECK.due("and the other", true, t.needed(1));
        t = Boards.told("xr..", "r...", "..k.", "...x");
        t.begin(0);
        CHECK.due("another corner is open", false, t.ring());
        CHECK.due("so none is needed", false, t.needed(0));
        t = new KingTable();
        t.law(0, 4, true, 1, 0);
        Boards.tell(t, "k...x", "....r");
        t.begin(0);
        CHECK.due("his reach matters not", false, t.ring());
    }

    private static void ringOnlyInAPlay() {
        KingTable t = Boards.told("k..", "...", "..r");
        CHECK.due("ring() without a play", false, t.ring());
        CHECK.due("needed() without a play", false, t.needed(1));
        t.begin(0);
        CHECK.due("ring() in a play", true, t.ring());
        t.stop();
        CHECK.due("ring() behind stop()", false, t.ring());
        t = Boards.told("rk..", "..r.");
        t.stop();
        t.law(0, 2, true, 0, 0);
        t.begin(1);
        CHECK.due("ring() before he is taken", true, t.ring());
        CHECK.due("he is taken", 1, t.go(2, UP, 1));
        CHECK.due("ring() when he's taken", false, t.ring());
        CHECK.due("needed() when he's taken", false, t.needed(0));
        t = Boards.told("k.x", "..r");
        t.begin(0);
        t.go(0, RIGHT, 2);
        CHECK.due("ring() when he's on a goal", false, t.ring());
        t = Boards.told("kr", "r.");
        t.begin(0);
        CHECK.due("over, since he can't go", 3, t.about(0));
        CHECK.due("ring() then", true, t.ring());
    }

    private static void neededOnes() {
        KingTable t = edges(
            ".....",
            "..r..",
            ".rkr.",
            "..r..",
            "r...g");
        int king = 2;
        for (int p = 0; p < 7; p++) {
            boolean holds = p != king && p < 5;
            CHECK.due("needed(" + p + ")", holds, t.needed(p));
        }
        for (int p : OUTSIDE) {
            CHECK.due("needed(" + p + ")", false, t.needed(p));
        }
        CHECK.due("needed(7)", false, t.needed(7));
        CHECK.due("asking changes nothing", true, t.ring());
        t = edges(
            "..r..",
            "..r..",
            ".rkr.",
            "..r..",
            ".....");
        CHECK.due("a raider behind another isn't needed", false, t.needed(0));
        CHECK.due("the one before it is, for there are ways beside the other", true, t.needed(1));
        t = edges(
            ".....",
            ".r.r.",
            "r.k.r",
            ".r.r.",
            "..r..");
        CHECK.due("no ring", false, t.ring());
        for (int p = 0; p < 8; p++) {
            CHECK.due("without a ring none is needed", false, t.needed(p));
        }
        t = Boards.told("xr.k", "rg..", "....");
        t.begin(1);
        CHECK.due("needed for the ring", true, t.needed(2));
        CHECK.due("a guard is not", false, t.needed(3));
    }
}
