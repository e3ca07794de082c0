import java.util.ArrayList;
import java.util.List;

/** What an object answers to every question, one after the other, so that two objects can be set side by side. */
final class Answers {
    /** The document promises nothing behind so many calls. */
    private static final int MOST_CALLS = 512;

    private final KingTable table;
    private final List<String> answers = new ArrayList<>();

    private Answers(KingTable table) {
        this.table = table;
    }

    /** Asks alone: the object stays as it is. */
    static List<String> now(KingTable table) {
        Answers a = new Answers(table);
        a.askAll();
        return a.answers;
    }

    /**
     * What can be asked now, along the moves back and again, in new plays on the same LINES, and of the LAWS. The object
     * is used up by this: it has another board then.
     */
    static List<String> everything(KingTable table) {
        Answers a = new Answers(table);
        a.askAll();
        a.askMoves();
        for (int side = 0; side < 2; side++) {
            a.add("stop()", table.stop());
            a.add("begin(" + side + ")", table.begin(side));
            a.askPlay();
        }
        a.askLaws();
        if (a.answers.size() > MOST_CALLS - 40) {
            throw new IllegalStateException(a.answers.size() + " calls leave too few for the scene");
        }
        return a.answers;
    }

    private void add(String call, int answer) {
        answers.add(call + " answered " + answer);
    }

    private void add(String call, boolean answer) {
        add(call, answer ? 1 : 0);
    }

    private void askAll() {
        askPlay();
        int pieces = table.about(2);
        for (int p = 0; p < pieces; p++) {
            add("needed(" + p + ")", table.needed(p));
            for (int move = 0; move < 8; move++) {
                int way = move / 2;
                int far = 1 + move % 2;
                add("why(" + p + ", " + way + ", " + far + ")", table.why(p, way, far));
            }
        }
        for (int k = 0; k < 3; k++) {
            add("took(" + k + ")", table.took(k));
        }
        add("ring()", table.ring());
        askSolved();
    }

    private void askPlay() {
        askAbout();
        int pieces = table.about(2);
        for (int p = 0; p < pieces; p++) {
            for (int what = 0; what < 4; what++) {
                add("piece(" + p + ", " + what + ")", table.piece(p, what));
            }
        }
        int fields = table.about(5);
        for (int f = 0; f < fields; f++) {
            add("on(" + f + ")", table.on(f));
            add("field(" + f + ")", table.field(f));
        }
    }

    private void askAbout() {
        for (int what = 0; what < 9; what++) {
            add("about(" + what + ")", table.about(what));
        }
    }

    private void askSolved() {
        add("worth()", table.worth());
        add("deep()", table.deep());
        add("best()", table.best());
        for (int side = 0; side < 2; side++) {
            add("most(" + side + ")", table.most(side));
            for (int worth = 0; worth < 3; worth++) {
                add("count(" + worth + ", " + side + ")", table.count(worth, side));
            }
            for (int v = 4; v < 1000; v += v) {
                add("stand(" + v + ", " + side + ")", table.stand(v, side));
            }
        }
    }

    private void askMoves() {
        int known = table.about(4) + table.about(6);
        while (table.about(6) > 0) {
            add("again()", table.again());
            askAbout();
        }
        for (int i = 0; i <= known; i++) {
            add("back()", table.back());
            add("on(0)", table.on(0));
        }
        for (int i = 0; i <= known; i++) {
            add("again()", table.again());
            add("about(0)", table.about(0));
        }
    }

    /** LAWS show only in plays, and stay where a new board is told: so we play on some that tell them apart. */
    private void askLaws() {
        begin(0, "...", "k..", "..r");
        add("goal: field(0)", table.field(0));
        add("takes: piece(0, 3)", table.piece(0, 3));
        begin(0, ".........", "k........", ".r.......");
        add("reach: piece(0, 2)", table.piece(0, 2));
        begin(0, ".........", ".k.......", "r........");
        add("reach, inside: piece(0, 2)", table.piece(0, 2));
        begin(1, ".....", ".rk..", "...r.");
        add("hard: go(2, 0, 1)", table.go(2, 0, 1));
        begin(0, "....", ".k..", "....", "...r");
        table.go(0, 1, 1);
        table.go(1, 0, 1);
        table.go(0, 3, 1);
        add("again: go(1, 2, 1)", table.go(1, 2, 1));
        add("again: about(0)", table.about(0));
    }

    private void begin(int side, String... rows) {
        add("a board told", Boards.tell(table, rows));
        add("begin(" + side + ")", table.begin(side));
    }
}
