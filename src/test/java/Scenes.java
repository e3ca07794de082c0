import java.util.ArrayList;
import java.util.List;
import java.util.function.Supplier;
import java.util.function.ToIntFunction;

/** States that an object can be in, each made by a few calls as often as it is wanted. */
final class Scenes {
    static final int UP = 0;
    static final int RIGHT = 1;
    static final int DOWN = 2;
    static final int LEFT = 3;
    static final int HUGE = Integer.MAX_VALUE;
    static final int TINY = Integer.MIN_VALUE;
    static final int REFUSED = 0;

    /** An object in a state, and what every object in it answers. */
    record Scene(String name, Supplier<KingTable> maker, List<String> answers) {
        KingTable make() {
            return maker.get();
        }
    }

    static final Scene NEW = scene("a new object", KingTable::new);
    static final Scene TOLD = scene("a board told", Scenes::told);
    static final Scene STOPPED = scene("behind stop()", Scenes::stopped);
    static final Scene RENEWED = scene("behind board()", Scenes::renewed);
    static final Scene BEGUN = scene("a play begun", () -> begun(told(), 1));
    static final Scene MIDST = scene("a play with moves done and taken back", Scenes::midst);
    static final Scene REFUSING = scene("a play with a move that AGAIN refuses", Scenes::refusing);
    static final Scene WON_0 = scene("a play won by side 0", Scenes::wonByKing);
    static final Scene WON_1 = scene("a play won by side 1", Scenes::wonByRaiders);
    static final Scene DRAWN = scene("a play drawn", Scenes::drawn);
    static final Scene AT_AN_END = scene("a board that began with an end", Scenes::atAnEnd);
    static final Scene SOLVED = scene("a solved board", Scenes::solved);
    static final Scene SOLVED_OVER = scene("a solved board, the play over", Scenes::solvedOver);

    static final List<Scene> WITHOUT_PLAY = List.of(NEW, TOLD, STOPPED, RENEWED);
    static final List<Scene> GOING_ON = List.of(BEGUN, MIDST, REFUSING, SOLVED);
    static final List<Scene> OVER = List.of(WON_0, WON_1, DRAWN, AT_AN_END, SOLVED_OVER);
    static final List<Scene> IN_PLAY = both(GOING_ON, OVER);
    static final List<Scene> ALL = both(WITHOUT_PLAY, IN_PLAY);
    static final List<Scene> NOT_SOLVED = List.of(
        NEW, TOLD, STOPPED, RENEWED, BEGUN, MIDST, REFUSING, WON_0, WON_1, DRAWN, AT_AN_END);

    private Scenes() { }

    static Scene scene(String name, Supplier<KingTable> maker) {
        return new Scene(name, maker, Answers.everything(maker.get()));
    }

    private static List<Scene> both(List<Scene> some, List<Scene> more) {
        List<Scene> all = new ArrayList<>(some);
        all.addAll(more);
        return all;
    }

    /** A call that answers as due, and behind which every other answer is what it would have been without it. */
    static void nothingDone(Check check, Scene scene, String call, int due, ToIntFunction<KingTable> f) {
        KingTable t = scene.make();
        String where = scene.name() + ": " + call;
        check.due(where, due, f.applyAsInt(t));
        check.same(where + " has done something", scene.answers(), Answers.everything(t));
    }

    static int bit(boolean b) {
        return b ? 1 : 0;
    }

    static KingTable begun(KingTable t, int side) {
        t.begin(side);
        return t;
    }

    /** A board told under LAWS of which each one differs from those at first. */
    private static KingTable told() {
        KingTable t = new KingTable();
        t.law(1, 2, false, 3, 1);
        Boards.tell(t, ".r.x", ".tk.", "g...", "..c.");
        return t;
    }

    private static KingTable stopped() {
        KingTable t = begun(told(), 1);
        t.go(0, LEFT, 1);
        t.back();
        t.stop();
        return t;
    }

    private static KingTable renewed() {
        KingTable t = solved();
        t.board(4, 2);
        t.line(1, 2, Boards.signs("kg"));
        return t;
    }

    private static KingTable midst() {
        KingTable t = begun(Boards.told("k...", ".rg.", "...r", "x..."), 1);
        t.go(3, UP, 1);
        t.go(0, RIGHT, 1);
        t.go(1, LEFT, 1);
        t.back();
        return t;
    }

    private static KingTable refusing() {
        KingTable t = new KingTable();
        t.law(0, 4, true, 0, 1);
        Boards.tell(t, "k..", "...", "..r");
        t.begin(0);
        t.go(0, RIGHT, 1);
        t.go(1, LEFT, 1);
        t.go(0, LEFT, 1);
        return t;
    }

    private static KingTable wonByKing() {
        KingTable t = begun(Boards.told("k.x", "...", "r.g"), 0);
        t.go(0, RIGHT, 2);
        return t;
    }

    private static KingTable wonByRaiders() {
        KingTable t = new KingTable();
        t.law(0, 2, true, 1, 0);
        Boards.tell(t, "rk..", "..r.");
        t.begin(1);
        t.go(2, UP, 1);
        return t;
    }

    private static KingTable drawn() {
        KingTable t = begun(Boards.told("k..", "...", "..r"), 0);
        t.go(0, RIGHT, 1);
        t.go(1, LEFT, 1);
        t.go(0, LEFT, 1);
        t.go(1, RIGHT, 1);
        return t;
    }

    private static KingTable atAnEnd() {
        KingTable t = new KingTable();
        t.law(1, 4, true, 8, 0);
        Boards.tell(t, "...", "k.g", "..r");
        t.begin(1);
        return t;
    }

    private static KingTable solved() {
        KingTable t = new KingTable();
        t.law(0, 4, false, 1, 0);
        Boards.tell(t, "r..", ".K.", ".cx");
        t.begin(1);
        t.solve();
        t.go(0, RIGHT, 1);
        t.go(1, LEFT, 1);
        t.back();
        return t;
    }

    private static KingTable solvedOver() {
        KingTable t = begun(Boards.told("k.x", "..r"), 0);
        t.solve();
        t.go(0, RIGHT, 2);
        return t;
    }
}
