/** Promises 7, 8, 13, 16, 17: go, why, took, back, again, and how a play ends. */
public final class MovesTest {
    private static final int UP = 0;
    private static final int RIGHT = 1;
    private static final int DOWN = 2;
    private static final int LEFT = 3;
    private static final int FAR_OFF = Integer.MAX_VALUE;
    private static final int FAR_BELOW = Integer.MIN_VALUE;
    private static final Check CHECK = new Check();

    public static void main(String[] args) {
        whyInOrder();
        whyAlongTheWay();
        reach();
        guardIsTaken();
        stepBetweenIsSafe();
        threeAreTaken();
        cornersAndThrones();
        kingOnACorner();
        hardKing();
        softKing();
        captains();
        kingWhoDoesNotTake();
        endsOfAPlay();
        drawn();
        refused();
        takingIsNoComingBack();
        backAndAgain();
        backFromAnEnd();
        CHECK.end();
    }

    private static KingTable with(int hard, boolean takes, int again, String... rows) {
        KingTable t = new KingTable();
        t.law(0, hard, takes, 0, again);
        Boards.tell(t, rows);
        return t;
    }

    private static void whyInOrder() {
        KingTable t = Boards.told(
            "g....",
            ".rg..",
            "...r.",
            "k...x");
        CHECK.due("no play", 1, t.why(9, 9, 0));
        t.begin(1);
        CHECK.due("no such piece", 2, t.why(5, UP, 1));
        CHECK.due("no piece below 0", 2, t.why(-1, 9, 0));
        CHECK.due("none far off", 2, t.why(FAR_OFF, UP, 1));
        CHECK.due("none far below", 2, t.why(FAR_BELOW, UP, 1));
        CHECK.due("not its turn", 4, t.why(0, 9, 0));
        CHECK.due("no way 4", 5, t.why(1, 4, 1));
        CHECK.due("no way -1", 5, t.why(1, -1, 1));
        CHECK.due("no way far off", 5, t.why(1, FAR_OFF, FAR_OFF));
        CHECK.due("far 0", 5, t.why(1, UP, 0));
        CHECK.due("far below 0", 5, t.why(1, UP, FAR_BELOW));
        CHECK.due("up is 1", 0, t.why(1, UP, 1));
        CHECK.due("beyond the upper edge", 6, t.why(1, UP, 2));
        CHECK.due("beyond the left edge", 6, t.why(1, LEFT, 2));
        CHECK.due("beyond the right edge, over a guard", 6, t.why(1, RIGHT, 4));
        CHECK.due("beyond the lower edge", 6, t.why(1, DOWN, 3));
        CHECK.due("far off", 6, t.why(1, DOWN, FAR_OFF));
        CHECK.due("nine", 6, t.why(1, DOWN, 9));
        CHECK.due("a guard in the way", 8, t.why(1, RIGHT, 1));
        CHECK.due("a guard in the way to an empty field", 8, t.why(1, RIGHT, 2));
        CHECK.due("down is 2", 0, t.why(1, DOWN, 2));
        CHECK.due("what can't go doesn't", -1, t.go(1, RIGHT, 1));
        CHECK.due("nor changes the turn", 1, t.about(1));
        CHECK.due("nor counts", 0, t.about(4));
        CHECK.due("a raider takes", 1, t.go(3, UP, 1));
        CHECK.due("a taken piece", 3, t.why(2, 9, 0));
        CHECK.due("a taken piece doesn't go", -1, t.go(2, UP, 1));
        CHECK.due("now it's not the raiders' turn", 4, t.why(1, UP, 1));
    }

    private static void whyAlongTheWay() {
        KingTable t = Boards.told(
            "r.x.g",
            "..r..",
            "r.g.K",
            ".....",
            "x...r");
        t.begin(1);
        CHECK.due("to the field before a corner", 0, t.why(0, RIGHT, 1));
        CHECK.due("onto a corner", 9, t.why(0, RIGHT, 2));
        CHECK.due("beyond a corner to an empty field", 9, t.why(0, RIGHT, 3));
        CHECK.due("a corner tells before a guard", 9, t.why(0, RIGHT, 4));
        CHECK.due("a guard tells before the throne", 8, t.why(3, RIGHT, 4));
        CHECK.due("a throne that's held isn't empty", 8, t.why(6, UP, 2));
        CHECK.due("and doesn't let through", 8, t.why(6, UP, 3));
        CHECK.due("onto a corner from the right", 9, t.why(6, LEFT, 4));
        t.go(0, DOWN, 1);
        CHECK.due("the king leaves his throne", 0, t.go(5, DOWN, 1));
        CHECK.due("a raider comes", 0, t.go(2, RIGHT, 1));
        CHECK.due("the king may go back to it", 0, t.why(5, UP, 1));
        CHECK.due("and over it", 0, t.why(5, UP, 2));
        CHECK.due("but not onto his guard", 8, t.why(5, UP, 3));
        CHECK.due("a guard goes beside the throne", 0, t.why(4, RIGHT, 1));
        CHECK.due("but not onto it", 9, t.why(4, RIGHT, 2));
        CHECK.due("the king goes over it", 0, t.go(5, UP, 2));
        CHECK.due("a raider goes before the throne", 0, t.why(6, UP, 1));
        CHECK.due("not onto it", 9, t.why(6, UP, 2));
        CHECK.due("it tells before the king", 9, t.why(6, UP, 3));
    }

    private static void reach() {
        for (int reach = 1; reach <= 8; reach++) {
            KingTable t = new KingTable();
            t.law(0, 4, true, reach, 0);
            Boards.tell(t, "k........", "r........", ".........");
            t.begin(0);
            CHECK.due("a king of reach " + reach, 0, t.why(0, RIGHT, reach));
            CHECK.due("has so many moves", reach, t.piece(0, 2));
            CHECK.due("a step more", reach < 8 ? 7 : 6, t.why(0, RIGHT, reach + 1));
            CHECK.due("beyond the board tells first", 6, t.why(0, RIGHT, 9));
            t.go(0, RIGHT, 1);
            CHECK.due("a raider goes on as it likes", 0, t.why(1, RIGHT, 8));
        }
        KingTable t = new KingTable();
        t.law(0, 4, true, 1, 0);
        Boards.tell(t, "kr.", "...");
        t.begin(0);
        CHECK.due("reach tells before a field that's held", 7, t.why(0, RIGHT, 2));
        t = Boards.told("k........", "r........", ".........");
        t.begin(0);
        CHECK.due("reach 0: as far as he likes", 0, t.why(0, RIGHT, 8));
        CHECK.due("so many moves", 8, t.piece(0, 2));
    }

    private static void guardIsTaken() {
        KingTable t = Boards.told(
            ".....",
            ".rg..",
            "...r.",
            "k....");
        t.begin(1);
        CHECK.due("a guard is taken", 1, t.go(2, UP, 1));
        CHECK.due("took(0)", 1, t.took(0));
        CHECK.due("took(1)", -1, t.took(1));
        CHECK.due("took(-1)", -1, t.took(-1));
        CHECK.due("took far off", -1, t.took(FAR_OFF));
        CHECK.due("its field is empty", -1, t.on(7));
        CHECK.due("it has none", -1, t.piece(1, 1));
        CHECK.due("it keeps its kind", 1, t.piece(1, 0));
        CHECK.due("it can't move", 0, t.piece(1, 2));
        CHECK.due("one is taken", 1, t.about(3));
        CHECK.due("by the latest move", 1, t.about(8));
        CHECK.due("the king goes", 0, t.go(3, RIGHT, 1));
        CHECK.due("that took none", -1, t.took(0));
        CHECK.due("that took 0", 0, t.about(8));
        CHECK.due("one is taken still", 1, t.about(3));
        t = Boards.told(
            ".r...",
            ".g...",
            "k....",
            ".r...");
        t.begin(1);
        CHECK.due("a guard is taken down a column", 1, t.go(3, UP, 1));
        t = Boards.told(
            ".....",
            ".grg.",
            "k....",
            "...r.");
        t.begin(1);
        CHECK.due("a move away takes nothing", 0, t.go(4, LEFT, 1));
        t = Boards.told(
            ".....",
            "gr.g.",
            "k....",
            ".....");
        t.begin(0);
        CHECK.due("guards take a raider", 1, t.go(2, LEFT, 1));
        CHECK.due("the last one: won by side 0", 2, t.about(0));
    }

    private static void stepBetweenIsSafe() {
        KingTable t = Boards.told(
            ".g...",
            "r.r..",
            "....k");
        t.begin(0);
        CHECK.due("a guard steps between raiders", 0, t.go(0, DOWN, 1));
        CHECK.due("and stays", 6, t.piece(0, 1));
        t.go(1, UP, 1);
        t.go(3, LEFT, 1);
        CHECK.due("till one of them comes back", 1, t.go(1, DOWN, 1));
        t = Boards.told(
            "rg.gr",
            "..r..",
            "....k");
        t.begin(1);
        CHECK.due("two at once", 2, t.go(4, UP, 1));
    }

    private static void threeAreTaken() {
        KingTable t = Boards.told(
            "...r...",
            "...g...",
            ".rg.gr.",
            ".......",
            "...r...",
            "k......");
        t.begin(1);
        CHECK.due("three are taken", 3, t.go(6, UP, 2));
        CHECK.due("the first by numbers", 1, t.took(0));
        CHECK.due("the second", 3, t.took(1));
        CHECK.due("the third", 4, t.took(2));
        CHECK.due("no fourth", -1, t.took(3));
        CHECK.due("three in all", 3, t.about(3));
        CHECK.due("back", true, t.back());
        int[] fields = {3, 10, 15, 16, 18, 19, 31, 35};
        for (int p = 0; p < fields.length; p++) {
            CHECK.due("piece " + p + " is back", fields[p], t.piece(p, 1));
            CHECK.due("on its field", p, t.on(fields[p]));
        }
        CHECK.due("none is taken", 0, t.about(3));
        CHECK.due("no latest move", -1, t.about(8));
        CHECK.due("that took none", -1, t.took(0));
        CHECK.due("again", true, t.again());
        CHECK.due("three again", 3, t.about(8));
        CHECK.due("in order", 3, t.took(1));
    }

    private static void cornersAndThrones() {
        KingTable t = Boards.told("xg.r", "....", "k...");
        t.begin(1);
        CHECK.due("an empty corner is a foe of a guard", 1, t.go(1, LEFT, 1));
        t = Boards.told("xr.g", "....", "k..r");
        t.begin(0);
        CHECK.due("and of a raider", 1, t.go(1, LEFT, 1));
        t = Boards.told("tg.r", "....", "k...");
        t.begin(1);
        CHECK.due("an empty throne is none", 0, t.go(1, LEFT, 1));
        t = Boards.told("g..r", "....", "k...");
        t.begin(1);
        CHECK.due("nor is the board's edge", 0, t.go(1, LEFT, 2));
        t = Boards.told("rg..", "..c.", "k...");
        t.begin(1);
        CHECK.due("a captain takes", 1, t.go(2, UP, 1));
        CHECK.due("a captain is on its field", 2, t.piece(2, 1));
        t = Boards.told("cg..", "..r.", "k...");
        t.begin(1);
        CHECK.due("a captain helps to take", 1, t.go(2, UP, 1));
    }

    private static void kingOnACorner() {
        for (int takes = 0; takes < 2; takes++) {
            KingTable t = new KingTable();
            t.law(1, 4, takes == 1, 0, 0);
            Boards.tell(t,
                ".....",
                "..k..",
                "..xr.",
                "r....",
                "....g");
            t.begin(0);
            CHECK.due("a corner inside is no goal at the edge", 2, t.field(12));
            CHECK.due("the king goes onto it", 0, t.go(0, DOWN, 1));
            CHECK.due("it goes on", 1, t.about(0));
            t.go(2, RIGHT, 1);
            CHECK.due("a corner that's held: a king who takes is a foe, another isn't", takes, t.go(3, UP, 2));
        }
        KingTable t = new KingTable();
        t.law(1, 4, true, 0, 0);
        Boards.tell(t,
            ".....",
            "..k..",
            "..xg.",
            ".....",
            "....r");
        t.begin(0);
        t.go(0, DOWN, 1);
        CHECK.due("a corner that the king holds is no foe of his guard", 0, t.go(2, UP, 2));
        t.stop();
        t.begin(1);
        CHECK.due("it is when it's empty", 1, t.go(2, UP, 2));
    }

    private static void hardKing() {
        KingTable t = with(4, true, 0,
            ".....",
            "..r..",
            ".rkr.",
            ".....",
            "..r..");
        t.begin(1);
        CHECK.due("a king between four", 1, t.go(4, UP, 1));
        CHECK.due("is taken", -1, t.piece(2, 1));
        CHECK.due("won by side 1", 3, t.about(0));
        CHECK.due("took the king", 2, t.took(0));
        t = with(4, true, 0,
            ".....",
            "..r..",
            ".rk..",
            ".....",
            "..r..");
        t.begin(1);
        CHECK.due("a king between three isn't", 0, t.go(3, UP, 1));
        t = with(4, true, 0,
            ".....",
            "..r..",
            ".rkx.",
            ".....",
            "..r..");
        t.begin(1);
        CHECK.due("an empty corner is the fourth", 1, t.go(3, UP, 1));
        t = with(4, true, 0,
            ".rk..",
            "..r..",
            "...r.");
        t.begin(1);
        CHECK.due("the edge is no foe", 0, t.go(3, UP, 2));
        CHECK.due("but he can't go", 3, t.about(0));
        CHECK.due("and isn't taken", 2, t.piece(1, 1));
        t = with(4, true, 0,
            ".....",
            "..g..",
            ".rkr.",
            ".....",
            "..r..");
        t.begin(1);
        CHECK.due("his guard is no foe", 0, t.go(4, UP, 1));
    }

    private static void softKing() {
        KingTable t = with(2, true, 0,
            ".....",
            ".rk..",
            "...r.");
        t.begin(1);
        CHECK.due("a king of hard 2 is taken between two", 1, t.go(2, UP, 1));
        CHECK.due("won by side 1", 3, t.about(0));
        t = with(2, true, 0,
            ".....",
            ".rk..",
            ".....",
            "..r..");
        t.begin(1);
        CHECK.due("but not around a bend", 0, t.go(2, UP, 1));
        t = with(2, true, 0,
            "rk...",
            "..r..");
        t.begin(1);
        CHECK.due("at the edge too", 1, t.go(2, UP, 1));
    }

    private static void captains() {
        KingTable t = Boards.told(
            ".....",
            "..g..",
            ".gcg.",
            ".....",
            "r.g.k");
        t.begin(0);
        CHECK.due("a captain between four is taken", 1, t.go(5, UP, 1));
        t = Boards.told(
            ".....",
            "..g..",
            ".gc..",
            ".....",
            "r.g.k");
        t.begin(0);
        CHECK.due("between three isn't", 0, t.go(4, UP, 1));
        t = Boards.told(
            ".....",
            "..g..",
            ".gcx.",
            ".....",
            "r.k..");
        t.begin(0);
        CHECK.due("with a corner and a king who takes", 1, t.go(4, UP, 1));
        t = with(4, false, 0,
            ".....",
            "..g..",
            ".kcx.",
            ".....",
            "r.g..");
        t.begin(0);
        CHECK.due("a king who doesn't take is no fourth", 0, t.go(4, UP, 1));
        t = Boards.told(
            ".gcg.",
            ".....",
            "r.g.k");
        t.begin(0);
        CHECK.due("nor is the edge", 0, t.go(4, UP, 1));
    }

    private static void kingWhoDoesNotTake() {
        String[] goes = {"gr.k", "....", "r..."};
        String[] helps = {"kr..", "..g.", "r..."};
        for (int takes = 0; takes < 2; takes++) {
            KingTable t = with(4, takes == 1, 0, goes);
            t.begin(0);
            CHECK.due("whether a king who goes takes", takes, t.go(2, LEFT, 1));
            t = with(4, takes == 1, 0, helps);
            t.begin(0);
            CHECK.due("whether he helps to take", takes, t.go(2, UP, 1));
            CHECK.due("whether he takes", takes, t.piece(0, 3));
            CHECK.due("a guard takes", 1, t.piece(2, 3));
            CHECK.due("a raider takes", 1, t.piece(1, 3));
        }
    }

    private static void endsOfAPlay() {
        KingTable t = Boards.told("k.x", "...", "r..");
        t.begin(0);
        CHECK.due("the king goes to a corner", 0, t.go(0, RIGHT, 2));
        CHECK.due("won by side 0", 2, t.about(0));
        CHECK.due("nobody is on turn", -1, t.about(1));
        CHECK.due("it's over", 1, t.why(1, UP, 1));
        CHECK.due("nothing goes", -1, t.go(1, UP, 1));
        CHECK.due("no moves are counted", 0, t.piece(1, 2));
        t = new KingTable();
        t.law(1, 4, true, 0, 0);
        Boards.tell(t, "....", ".k..", "....", "r...");
        t.begin(0);
        CHECK.due("the king goes to the edge", 0, t.go(0, RIGHT, 2));
        CHECK.due("won by side 0", 2, t.about(0));
        t = Boards.told("....", ".k..", "....", "r...");
        t.begin(0);
        t.go(0, RIGHT, 2);
        CHECK.due("the edge is no goal otherwise", 1, t.about(0));
        t = Boards.told("kg.", "...", "r.r", "...");
        t.begin(1);
        t.go(2, UP, 1);
        CHECK.due("the guard can go", 1, t.about(0));
        t = Boards.told("k.r", "r..", "...");
        t.begin(1);
        t.go(1, LEFT, 1);
        CHECK.due("a king who can't go has lost", 3, t.about(0));
        t = Boards.told("r.g", "g..", "..k");
        t.begin(0);
        t.go(1, LEFT, 1);
        CHECK.due("raiders who can't go have lost", 2, t.about(0));
        CHECK.due("none was taken", 0, t.about(3));
    }

    private static void drawn() {
        KingTable t = Boards.told("k...", "....", "...r");
        t.begin(0);
        t.go(0, RIGHT, 2);
        t.go(1, LEFT, 1);
        t.go(0, LEFT, 1);
        t.go(1, RIGHT, 1);
        CHECK.due("another stand", 1, t.about(0));
        t.go(0, LEFT, 1);
        CHECK.due("the first fields, but another turn", 1, t.about(0));
        t.go(1, UP, 1);
        t.go(0, RIGHT, 2);
        t.go(1, DOWN, 1);
        CHECK.due("not there yet", 1, t.about(0));
        t.go(0, LEFT, 2);
        CHECK.due("a stand with this turn was there", 4, t.about(0));
        CHECK.due("nobody is on turn", -1, t.about(1));
        CHECK.due("it's over", 1, t.why(1, UP, 1));
        CHECK.due("no moves are counted", 0, t.piece(1, 2));
        t = Boards.told("k..g", "....", "g..r");
        t.begin(0);
        t.go(0, RIGHT, 1);
        t.go(3, UP, 1);
        t.go(0, LEFT, 1);
        t.go(3, DOWN, 1);
        CHECK.due("the stand it began with", 4, t.about(0));
        t = Boards.told("g.g", "...", "k.r");
        t.begin(0);
        t.go(0, DOWN, 1);
        t.go(3, UP, 1);
        t.go(1, LEFT, 2);
        t.go(3, DOWN, 1);
        t.go(0, RIGHT, 2);
        t.go(3, UP, 1);
        t.go(0, UP, 1);
        t.go(3, DOWN, 1);
        CHECK.due("guards who have changed places are another stand", 1, t.about(0));
    }

    private static void refused() {
        KingTable t = with(4, true, 1, "k..", "...", "..r");
        t.begin(0);
        t.go(0, RIGHT, 1);
        t.go(1, LEFT, 1);
        t.go(0, LEFT, 1);
        CHECK.due("the raider may not bring it back", 10, t.why(1, RIGHT, 1));
        CHECK.due("nor does", -1, t.go(1, RIGHT, 1));
        CHECK.due("the play goes on", 1, t.about(0));
        CHECK.due("it counts as a way to go", 4, t.piece(1, 2));
        CHECK.due("another way", 0, t.go(1, LEFT, 1));
        t.back();
        CHECK.due("the same behind back()", 10, t.why(1, RIGHT, 1));
        CHECK.due("what was taken back isn't there", 0, t.why(1, LEFT, 1));
        CHECK.due("asking keeps what can be done again", true, t.again());
        CHECK.due("on its field", 6, t.piece(1, 1));
        t = with(4, true, 1, "kg", "r.");
        t.begin(1);
        t.go(2, RIGHT, 1);
        t.go(0, DOWN, 1);
        t.back();
        t.back();
        CHECK.due("nothing is refused of what was taken back", 0, t.why(2, RIGHT, 1));
    }

    private static void takingIsNoComingBack() {
        for (int again = 0; again < 2; again++) {
            KingTable t = with(4, true, again,
                "rgr.",
                "....",
                "k...",
                "....");
            t.begin(0);
            t.go(3, RIGHT, 1);
            t.go(2, RIGHT, 1);
            t.go(3, LEFT, 1);
            CHECK.due("a move that takes brings nothing back", 0, t.why(2, LEFT, 1));
            CHECK.due("it takes", 1, t.go(2, LEFT, 1));
            CHECK.due("and it goes on", 1, t.about(0));
        }
    }

    private static void backAndAgain() {
        KingTable t = Boards.told("k...", ".r..", "....");
        CHECK.due("back() without a play", false, t.back());
        CHECK.due("again() without a play", false, t.again());
        t.begin(0);
        CHECK.due("back() without a move", false, t.back());
        CHECK.due("again() without a move", false, t.again());
        t.go(0, RIGHT, 3);
        t.go(1, DOWN, 1);
        t.go(0, DOWN, 1);
        CHECK.due("moves", 3, t.about(4));
        CHECK.due("none to do again", 0, t.about(6));
        CHECK.due("back", true, t.back());
        CHECK.due("the king is back", 3, t.piece(0, 1));
        CHECK.due("his turn", 0, t.about(1));
        CHECK.due("back", true, t.back());
        CHECK.due("side 1's turn", 1, t.about(1));
        CHECK.due("moves", 1, t.about(4));
        CHECK.due("two to do again", 2, t.about(6));
        CHECK.due("again", true, t.again());
        CHECK.due("the raider went", 9, t.piece(1, 1));
        CHECK.due("one to do again", 1, t.about(6));
        CHECK.due("a move that can't be done", -1, t.go(0, UP, 1));
        CHECK.due("keeps it", 1, t.about(6));
        CHECK.due("a move", 0, t.go(0, LEFT, 1));
        CHECK.due("ends it", 0, t.about(6));
        CHECK.due("none to do again", false, t.again());
        CHECK.due("moves", 3, t.about(4));
        for (int i = 0; i < 3; i++) {
            CHECK.due("all back", true, t.back());
        }
        CHECK.due("no more", false, t.back());
        CHECK.due("as it began", 0, t.piece(0, 1));
        CHECK.due("as it began", 5, t.piece(1, 1));
        for (int i = 0; i < 3; i++) {
            CHECK.due("all again", true, t.again());
        }
        CHECK.due("no more", false, t.again());
        CHECK.due("the king", 2, t.piece(0, 1));
    }

    private static void backFromAnEnd() {
        KingTable t = Boards.told("k.x", "...", "r..");
        t.begin(0);
        t.go(0, RIGHT, 2);
        CHECK.due("back from a play that's won", true, t.back());
        CHECK.due("it goes on", 1, t.about(0));
        CHECK.due("side 0 is on turn", 0, t.about(1));
        CHECK.due("again", true, t.again());
        CHECK.due("it's won", 2, t.about(0));
        t = Boards.told("k..", "...", "..r");
        t.begin(0);
        t.go(0, RIGHT, 1);
        t.go(1, LEFT, 1);
        t.go(0, LEFT, 1);
        t.go(1, RIGHT, 1);
        CHECK.due("drawn", 4, t.about(0));
        CHECK.due("back", true, t.back());
        CHECK.due("it goes on", 1, t.about(0));
        CHECK.due("again", true, t.again());
        CHECK.due("drawn", 4, t.about(0));
        t.back();
        t.back();
        CHECK.due("the way back is no stand that was there", 0, t.go(0, LEFT, 1));
        CHECK.due("it goes on", 1, t.about(0));
    }
}
