import java.util.Arrays;

/** A bench for a game of unlike sides: a king and his guards against raiders; ../shared/DOC.md tells the promises. */
public final class KingTable {
    public static final int NONE = -1;

    private static final int LEAST_SPAN = 2;
    private static final int MOST_SPAN = 9;
    private static final int MOST_FIELDS = 81;
    private static final int MOST_PIECES = 40;
    private static final int MOST_MOVES = 512;
    private static final int MOST_STANDS = 10000;
    /** No board whose stands stay within MOST_STANDS has more moves in all its stands together. */
    private static final int MOST_LINKS = 118300;
    private static final int WAYS = 4;
    private static final int SIDES = 2;

    private static final int EMPTY = 0;
    private static final int GUARD = 1;
    private static final int KING = 2;
    private static final int RAIDER = 3;
    private static final int CAPTAIN = 4;
    private static final int EMPTY_THRONE = 5;
    private static final int EMPTY_CORNER = 6;
    private static final int KING_ON_THRONE = 7;

    private static final int PLAIN = 0;
    private static final int THRONE = 1;
    private static final int CORNER = 2;
    private static final int GOAL_MARK = 4;

    private static final int NO_PLAY = 0;
    private static final int GOES_ON = 1;
    private static final int WON_BY_FIRST = 2;
    private static final int ENDED_DRAWN = 4;

    /** How moves are numbered: so much for each piece, and for each way. */
    private static final int PIECE_STEP = 32;
    private static final int WAY_STEP = 8;

    private static final int DRAWN = 2;
    private static final int WORTHS = 3;

    private final Told told;
    private final Laws laws;
    private final Rules rules;
    private final Play play;
    private final Ring hold;
    private final Solver solver;

    public KingTable() {
        told = new Told();
        laws = new Laws();
        rules = new Rules(laws);
        play = new Play(laws, rules);
        hold = new Ring(rules);
        solver = new Solver(rules);
    }

    public boolean board(int lines, int fields) {
        if (!told.renew(lines, fields)) {
            return false;
        }
        endPlay();
        return true;
    }

    public boolean line(int r, int n, int v) {
        return !play.isThere() && told.tell(r, n, v);
    }

    public boolean law(int goal, int hard, boolean takes, int reach, int again) {
        return !play.isThere() && laws.change(goal, hard, takes, reach, again);
    }

    public int begin(int side) {
        if (play.isThere() || !isSide(side) || !told.canBegin()) {
            return NONE;
        }
        solver.forget();
        play.start(told, side);
        return rules.total;
    }

    public boolean stop() {
        if (!play.isThere()) {
            return false;
        }
        endPlay();
        return true;
    }

    public int go(int piece, int way, int far) {
        return play.tryMove(piece, way, far);
    }

    public int why(int piece, int way, int far) {
        return play.reason(piece, way, far);
    }

    public int about(int what) {
        switch (what) {
            case 0: return play.state;
            case 1: return play.sideOnTurn();
            case 2: return rules.total;
            case 3: return play.lost();
            case 4: return play.log.done;
            case 5: return told.size();
            case 6: return play.log.known - play.log.done;
            case 7: return told.lines;
            case 8: return play.log.latestTakings();
            default: return NONE;
        }
    }

    public int piece(int piece, int what) {
        if (!rules.isPiece(piece)) {
            return NONE;
        }
        switch (what) {
            case 0: return rules.kinds[piece];
            case 1: return play.now.fieldOf(piece);
            case 2: return play.movesOf(piece);
            case 3: return rules.takers[piece] ? 1 : 0;
            default: return NONE;
        }
    }

    public int on(int field) {
        return play.now.holderOf(field);
    }

    public int field(int f) {
        if (!play.isThere() || f < 0 || f >= told.size()) {
            return NONE;
        }
        return rules.ground.types[f] + (rules.ground.goals[f] ? GOAL_MARK : 0);
    }

    public int took(int k) {
        return play.log.latestVictim(k);
    }

    public boolean ring() {
        return hold.holds(play.now, NONE);
    }

    public boolean needed(int piece) {
        return rules.isPiece(piece) && rules.sides[piece] == 1
            && hold.holds(play.now, NONE) && !hold.holds(play.now, piece);
    }

    public boolean back() {
        return play.takeBack();
    }

    public boolean again() {
        return play.redo();
    }

    public int solve() {
        return play.isThere() ? solver.solveAll() : NONE;
    }

    public int worth() {
        return solver.worthOf(play.now);
    }

    public int deep() {
        return solver.deepOf(play.now);
    }

    public int best() {
        return solver.bestMove(play.now);
    }

    public int count(int worth, int side) {
        return solver.tally(worth, side);
    }

    public int most(int side) {
        return solver.greatestDeep(side);
    }

    public int stand(int v, int side) {
        return solver.worthAt(v, side);
    }

    private void endPlay() {
        play.finish();
        solver.forget();
    }

    private static boolean isSide(int side) {
        return side == 0 || side == 1;
    }

    /** The kind of the piece that a sign brings, or EMPTY. */
    private static int kindOfSign(int sign) {
        if (sign == KING_ON_THRONE) {
            return KING;
        }
        return sign >= GUARD && sign <= CAPTAIN ? sign : EMPTY;
    }

    private static int typeOfSign(int sign) {
        if (sign == EMPTY_THRONE || sign == KING_ON_THRONE) {
            return THRONE;
        }
        return sign == EMPTY_CORNER ? CORNER : PLAIN;
    }

    /** The board as it was told; a play reads it once, when it begins. */
    private static final class Told {
        private final int[] signs = new int[MOST_FIELDS];
        private int lines = 3;
        private int width = 3;

        int size() {
            return lines * width;
        }

        boolean renew(int newLines, int newWidth) {
            if (!isSpan(newLines) || !isSpan(newWidth)) {
                return false;
            }
            lines = newLines;
            width = newWidth;
            Arrays.fill(signs, EMPTY);
            return true;
        }

        private static boolean isSpan(int n) {
            return n >= LEAST_SPAN && n <= MOST_SPAN;
        }

        boolean tell(int r, int n, int v) {
            if (r < 0 || r >= lines || n < 0 || n > width) {
                return false;
            }
            for (int c = 0; c < width; c++) {
                signs[r * width + c] = c < n ? (v >> (3 * c)) & 7 : EMPTY;
            }
            return true;
        }

        boolean canBegin() {
            int kings = 0;
            int raiders = 0;
            int pieces = 0;
            int thrones = 0;
            int size = size();
            for (int f = 0; f < size; f++) {
                int kind = kindOfSign(signs[f]);
                kings += kind == KING ? 1 : 0;
                raiders += kind == RAIDER || kind == CAPTAIN ? 1 : 0;
                pieces += kind == EMPTY ? 0 : 1;
                thrones += typeOfSign(signs[f]) == THRONE ? 1 : 0;
            }
            return kings == 1 && raiders >= 1 && pieces <= MOST_PIECES && thrones <= 1;
        }
    }

    private static final class Laws {
        private int goal = 0;
        private int hard = 4;
        private boolean kingTakes = true;
        private int reach = 0;
        private int comeback = 0;

        boolean change(int newGoal, int newHard, boolean takes, int newReach, int newComeback) {
            boolean fits = (newGoal == 0 || newGoal == 1) && (newHard == 2 || newHard == 4)
                && newReach >= 0 && newReach <= 8 && (newComeback == 0 || newComeback == 1);
            if (!fits) {
                return false;
            }
            goal = newGoal;
            hard = newHard;
            kingTakes = takes;
            reach = newReach;
            comeback = newComeback;
            return true;
        }
    }

    /** The fields of the board that a play goes on. */
    private static final class Ground {
        private final int[] types = new int[MOST_FIELDS];
        private final boolean[] goals = new boolean[MOST_FIELDS];
        private final int[] neighbours = new int[MOST_FIELDS * WAYS];
        private int size;
        /** The most moves that one piece can have anywhere on this board. */
        private int mostMoves;

        void lay(Told told, int goal) {
            size = told.size();
            mostMoves = told.lines + told.width - 2;
            for (int r = 0; r < told.lines; r++) {
                for (int c = 0; c < told.width; c++) {
                    int f = r * told.width + c;
                    boolean atEdge = r == 0 || c == 0 || r == told.lines - 1 || c == told.width - 1;
                    types[f] = typeOfSign(told.signs[f]);
                    goals[f] = goal == 0 ? types[f] == CORNER : atEdge;
                    neighbours[f * WAYS] = r > 0 ? f - told.width : NONE;
                    neighbours[f * WAYS + 1] = c < told.width - 1 ? f + 1 : NONE;
                    neighbours[f * WAYS + 2] = r < told.lines - 1 ? f + told.width : NONE;
                    neighbours[f * WAYS + 3] = c > 0 ? f - 1 : NONE;
                }
            }
        }

        int beside(int f, int way) {
            boolean known = f >= 0 && f < size && way >= 0 && way < WAYS;
            return known ? neighbours[f * WAYS + way] : NONE;
        }

        /** NONE beyond the board; far may be any number. */
        int away(int from, int way, int far) {
            if (far >= MOST_SPAN) {
                return NONE;
            }
            int f = from;
            for (int i = 0; i < far; i++) {
                f = beside(f, way);
            }
            return f;
        }
    }

    /** Where each piece is, and whose turn it is. */
    private static final class Stand {
        private final int[] fields = new int[MOST_PIECES];
        private final int[] holders = new int[MOST_FIELDS];
        private int turn;

        Stand() {
            clear();
        }

        void clear() {
            Arrays.fill(fields, NONE);
            Arrays.fill(holders, NONE);
            turn = 0;
        }

        int fieldOf(int p) {
            return p >= 0 && p < MOST_PIECES ? fields[p] : NONE;
        }

        int holderOf(int f) {
            return f >= 0 && f < MOST_FIELDS ? holders[f] : NONE;
        }

        /** Puts a piece on a field; NONE takes it off the board. */
        void place(int p, int f) {
            if (p < 0 || p >= MOST_PIECES) {
                return;
            }
            int old = fields[p];
            if (old >= 0 && old < MOST_FIELDS) {
                holders[old] = NONE;
            }
            fields[p] = f;
            if (f >= 0 && f < MOST_FIELDS) {
                holders[f] = p;
            }
        }
    }

    /** How the pieces of one play go and take, on any stand of them. */
    private static final class Rules {
        private final Laws laws;
        private final Ground ground = new Ground();
        private final int[] kinds = new int[MOST_PIECES];
        private final int[] sides = new int[MOST_PIECES];
        private final boolean[] takers = new boolean[MOST_PIECES];
        private int total;
        private int king = NONE;
        private final int[] victims = new int[WAYS];
        private int victimCount;

        Rules(Laws laws) {
            this.laws = laws;
        }

        void enlist(int kind) {
            if (total >= MOST_PIECES) {
                return;
            }
            if (kind == KING) {
                king = total;
            }
            kinds[total] = kind;
            sides[total] = kind == KING || kind == GUARD ? 0 : 1;
            takers[total] = kind != KING || laws.kingTakes;
            total++;
        }

        void dismiss() {
            total = 0;
            king = NONE;
        }

        boolean isPiece(int p) {
            return p >= 0 && p < total;
        }

        boolean bears(int f, int p) {
            return p == king || f >= 0 && f < ground.size && ground.types[f] == PLAIN;
        }

        boolean isGoal(int f) {
            return f >= 0 && f < ground.size && ground.goals[f];
        }

        boolean isBeyondReach(int p, int far) {
            return p == king && laws.reach > 0 && far > laws.reach;
        }

        /** How many fields a piece can go one way. */
        int room(Stand s, int p, int way) {
            int limit = p == king && laws.reach > 0 ? laws.reach : MOST_SPAN;
            int f = ground.beside(s.fieldOf(p), way);
            int n = 0;
            while (n < limit && f != NONE && s.holderOf(f) == NONE && bears(f, p)) {
                n++;
                f = ground.beside(f, way);
            }
            return n;
        }

        int movesOf(Stand s, int p) {
            int moves = 0;
            for (int way = 0; way < WAYS; way++) {
                moves += room(s, p, way);
            }
            return moves;
        }

        boolean canGo(Stand s) {
            for (int p = 0; p < total; p++) {
                for (int way = 0; sides[p] == s.turn && way < WAYS; way++) {
                    if (room(s, p, way) > 0) {
                        return true;
                    }
                }
            }
            return false;
        }

        /** The side that a stand is won by where nobody needs to move any more, or NONE. */
        int winner(Stand s) {
            int f = s.fieldOf(king);
            if (f == NONE) {
                return 1;
            }
            if (isGoal(f)) {
                return 0;
            }
            return canGo(s) ? NONE : 1 - s.turn;
        }

        /** Leaves in victims, by numbers, what a piece would take by going to a field; the stand stays as it is. */
        int findVictims(Stand s, int p, int to) {
            victimCount = 0;
            if (!isPiece(p) || !takers[p]) {
                return 0;
            }
            int from = s.fieldOf(p);
            // The field that it leaves counts as empty, so it has to be away from there while we look.
            s.place(p, to);
            for (int way = 0; way < WAYS; way++) {
                int f = ground.beside(to, way);
                int q = s.holderOf(f);
                if (isPiece(q) && sides[q] != sides[p] && isCaught(s, q, way)) {
                    addVictim(q);
                }
            }
            s.place(p, from);
            return victimCount;
        }

        private void addVictim(int q) {
            int i = victimCount;
            if (i >= WAYS) {
                return;
            }
            while (i > 0 && victims[i - 1] > q) {
                victims[i] = victims[i - 1];
                i--;
            }
            victims[i] = q;
            victimCount++;
        }

        /** way: from the piece that went to the piece q beside it, and so on to the opposite side. */
        private boolean isCaught(Stand s, int q, int way) {
            boolean fromAllSides = kinds[q] == CAPTAIN || q == king && laws.hard == 4;
            int f = s.fieldOf(q);
            for (int w = 0; w < WAYS; w++) {
                if ((fromAllSides || w == way) && !isFoe(s, ground.beside(f, w), 1 - sides[q])) {
                    return false;
                }
            }
            return true;
        }

        private boolean isFoe(Stand s, int f, int side) {
            if (f < 0 || f >= ground.size) {
                return false;
            }
            int q = s.holders[f];
            if (q < 0 || q >= total) {
                return ground.types[f] == CORNER;
            }
            return sides[q] == side && takers[q];
        }
    }

    /** The moves of a play, done ones first, then those that were taken back. */
    private static final class Log {
        private final int[] movers = new int[MOST_MOVES];
        private final int[] froms = new int[MOST_MOVES];
        private final int[] tos = new int[MOST_MOVES];
        private final int[] takings = new int[MOST_MOVES];
        private final int[] victims = new int[MOST_MOVES * WAYS];
        private final int[] victimFields = new int[MOST_MOVES * WAYS];
        private final int[] then = new int[MOST_PIECES];
        private int done;
        private int known;

        void clear() {
            done = 0;
            known = 0;
        }

        boolean isFull() {
            return done >= MOST_MOVES;
        }

        /** Writes the move that the rules have just looked for victims of. */
        void write(Stand before, int p, int to, Rules rules) {
            if (isFull()) {
                return;
            }
            movers[done] = p;
            froms[done] = before.fieldOf(p);
            tos[done] = to;
            takings[done] = rules.victimCount;
            for (int k = 0; k < rules.victimCount; k++) {
                victims[done * WAYS + k] = rules.victims[k];
                victimFields[done * WAYS + k] = before.fieldOf(rules.victims[k]);
            }
            done++;
            known = Math.max(known, done);
        }

        int latestTakings() {
            return done > 0 ? takings[done - 1] : NONE;
        }

        int latestVictim(int k) {
            boolean there = done > 0 && k >= 0 && k < takings[done - 1];
            return there ? victims[(done - 1) * WAYS + k] : NONE;
        }

        void unwind(Stand s) {
            if (done <= 0) {
                return;
            }
            done--;
            s.place(movers[done], froms[done]);
            for (int k = 0; k < takings[done]; k++) {
                s.place(victims[done * WAYS + k], victimFields[done * WAYS + k]);
            }
            s.turn = 1 - s.turn;
        }

        /** Whether the stand that a piece would bring about by going to a field, taking nothing, was there before. */
        boolean hasSeen(Stand now, int p, int to) {
            System.arraycopy(now.fields, 0, then, 0, MOST_PIECES);
            int apart = 1;
            // What was taken never comes back, so no stand before a taking can be the one.
            for (int i = done - 1; i >= 0 && takings[i] == 0; i--) {
                int q = movers[i];
                int due = q == p ? to : now.fieldOf(q);
                apart += then[q] == due ? 1 : 0;
                then[q] = froms[i];
                apart -= then[q] == due ? 1 : 0;
                boolean sameTurn = ((done - i) & 1) == 1;
                if (apart == 0 && sameTurn) {
                    return true;
                }
            }
            return false;
        }
    }

    private static final class Play {
        private final Laws laws;
        private final Rules rules;
        private final Stand now = new Stand();
        private final Log log = new Log();
        private int state = NO_PLAY;

        Play(Laws laws, Rules rules) {
            this.laws = laws;
            this.rules = rules;
        }

        boolean isThere() {
            return state != NO_PLAY;
        }

        void start(Told told, int side) {
            finish();
            rules.ground.lay(told, laws.goal);
            int size = told.size();
            for (int f = 0; f < size; f++) {
                int kind = kindOfSign(told.signs[f]);
                if (kind != EMPTY) {
                    now.place(rules.total, f);
                    rules.enlist(kind);
                }
            }
            now.turn = side;
            settle(false);
        }

        void finish() {
            state = NO_PLAY;
            rules.dismiss();
            now.clear();
            log.clear();
        }

        private void settle(boolean cameBack) {
            int winner = rules.winner(now);
            if (winner != NONE) {
                state = WON_BY_FIRST + winner;
            } else {
                state = cameBack && laws.comeback == 0 ? ENDED_DRAWN : GOES_ON;
            }
        }

        int sideOnTurn() {
            return state == GOES_ON ? now.turn : NONE;
        }

        int lost() {
            int n = 0;
            for (int p = 0; p < rules.total; p++) {
                n += now.fieldOf(p) == NONE ? 1 : 0;
            }
            return n;
        }

        int movesOf(int p) {
            boolean onTurn = rules.isPiece(p) && rules.sides[p] == sideOnTurn();
            return onTurn ? rules.movesOf(now, p) : 0;
        }

        int reason(int p, int way, int far) {
            if (state != GOES_ON) {
                return 1;
            }
            if (!rules.isPiece(p)) {
                return 2;
            }
            int from = now.fieldOf(p);
            if (from == NONE) {
                return 3;
            }
            if (rules.sides[p] != now.turn) {
                return 4;
            }
            if (way < 0 || way >= WAYS || far < 1) {
                return 5;
            }
            int to = rules.ground.away(from, way, far);
            if (to == NONE) {
                return 6;
            }
            if (rules.isBeyondReach(p, far)) {
                return 7;
            }
            int bar = barrier(p, way, to);
            if (bar != 0) {
                return bar;
            }
            return laws.comeback == 1 && comesBack(p, to) ? 10 : 0;
        }

        private int barrier(int p, int way, int to) {
            int f = now.fieldOf(p);
            for (int i = 1; i < MOST_SPAN && f != to; i++) {
                f = rules.ground.beside(f, way);
                if (now.holderOf(f) != NONE) {
                    return 8;
                }
                if (!rules.bears(f, p)) {
                    return 9;
                }
            }
            return 0;
        }

        /** Leaves the victims of the move in the rules. */
        private boolean comesBack(int p, int to) {
            return rules.findVictims(now, p, to) == 0 && log.hasSeen(now, p, to);
        }

        int tryMove(int p, int way, int far) {
            if (reason(p, way, far) != 0 || log.isFull()) {
                return NONE;
            }
            log.known = log.done;
            settle(move(p, rules.ground.away(now.fieldOf(p), way, far)));
            return log.latestTakings();
        }

        /** Whether it brought back a stand that was there before. */
        private boolean move(int p, int to) {
            boolean cameBack = comesBack(p, to);
            log.write(now, p, to, rules);
            now.place(p, to);
            for (int k = 0; k < rules.victimCount; k++) {
                now.place(rules.victims[k], NONE);
            }
            now.turn = 1 - now.turn;
            return cameBack;
        }

        boolean takeBack() {
            if (log.done == 0) {
                return false;
            }
            log.unwind(now);
            state = GOES_ON;
            return true;
        }

        boolean redo() {
            if (log.done >= log.known || log.isFull()) {
                return false;
            }
            settle(move(log.movers[log.done], log.tos[log.done]));
            return true;
        }
    }

    /** Looks whether raiders shut the king off from every goal; his guards never do, for they step aside for him. */
    private static final class Ring {
        private final Rules rules;
        private final int[] reached = new int[MOST_FIELDS];
        private final boolean[] seen = new boolean[MOST_FIELDS];

        Ring(Rules rules) {
            this.rules = rules;
        }

        /** As if the piece `without` weren't there (NONE: with all). */
        boolean holds(Stand s, int without) {
            int start = s.fieldOf(rules.king);
            if (start < 0 || start >= MOST_FIELDS || rules.isGoal(start)) {
                return false;
            }
            for (int f = 0; f < MOST_FIELDS; f++) {
                seen[f] = false;
            }
            seen[start] = true;
            reached[0] = start;
            int tail = 1;
            for (int head = 0; head < tail && head < MOST_FIELDS; head++) {
                for (int way = 0; way < WAYS; way++) {
                    int f = rules.ground.beside(reached[head], way);
                    if (f == NONE || seen[f] || isBarred(s, f, without)) {
                        continue;
                    }
                    if (rules.isGoal(f)) {
                        return false;
                    }
                    seen[f] = true;
                    reached[tail] = f;
                    tail++;
                }
            }
            return true;
        }

        private boolean isBarred(Stand s, int f, int without) {
            int p = s.holderOf(f);
            return rules.isPiece(p) && p != without && rules.sides[p] == 1;
        }
    }

    /** For each stand, the stands from which a move leads to it, as chains. */
    private static final class Links {
        private int[] heads = new int[0];
        private int[] sources = new int[0];
        private int[] nexts = new int[0];
        private int used;

        void renew(int stands, int links) {
            if (heads.length < stands) {
                heads = new int[roomFor(stands, heads.length, MOST_STANDS)];
            }
            if (sources.length < links) {
                int length = roomFor(links, sources.length, MOST_LINKS);
                sources = new int[length];
                nexts = new int[length];
            }
            Arrays.fill(heads, NONE);
            used = 0;
        }

        /** Doubles what there was, so that boards which grow from solve to solve don't fill the room. */
        static int roomFor(int need, int had, int most) {
            return Math.max(need, Math.min(2 * had, most));
        }

        void add(int source, int target) {
            if (used < sources.length && target >= 0 && target < heads.length) {
                sources[used] = source;
                nexts[used] = heads[target];
                heads[target] = used;
                used++;
            }
        }
    }

    /** All stands of the play's board, solved from the ends back. A stand's index is twice its places' number, and its turn. */
    private static final class Solver {
        private final Rules rules;
        private final Stand trial = new Stand();
        private final Links links = new Links();
        private final int[] powers = new int[MOST_PIECES];
        private final int[] digits = new int[MOST_PIECES];
        private final int[] tallies = new int[WORTHS * SIDES];
        private final int[] greatest = new int[SIDES];
        private int[] worths = new int[0];
        private int[] deeps = new int[0];
        private int[] open = new int[0];
        private int[] queue = new int[0];
        private int queued;
        private int places;
        private int counted;
        private boolean solved;

        Solver(Rules rules) {
            this.rules = rules;
        }

        void forget() {
            solved = false;
        }

        int solveAll() {
            if (solved) {
                return counted;
            }
            if (!measure()) {
                return NONE;
            }
            makeRoom(2 * places);
            links.renew(2 * places, places * rules.total * rules.ground.mostMoves);
            trial.clear();
            Arrays.fill(digits, 0);
            queued = 0;
            counted = 0;
            for (int v = 0; v < places; v++) {
                enter(2 * v);
                nextDigits();
            }
            spread();
            tallyUp();
            solved = true;
            return counted;
        }

        /** False if the board has too many stands. */
        private boolean measure() {
            int n = 1;
            for (int p = 0; p < rules.total; p++) {
                powers[p] = n;
                n *= rules.ground.size + 1;
                if (2 * n > MOST_STANDS) {
                    return false;
                }
            }
            places = n;
            return true;
        }

        private void makeRoom(int stands) {
            if (worths.length < stands) {
                int length = Links.roomFor(stands, worths.length, MOST_STANDS);
                worths = new int[length];
                deeps = new int[length];
                open = new int[length];
                queue = new int[length];
            }
        }

        private void nextDigits() {
            for (int p = 0; p < rules.total; p++) {
                digits[p]++;
                if (digits[p] <= rules.ground.size) {
                    return;
                }
                digits[p] = 0;
            }
        }

        private void enter(int first) {
            boolean counts = setUp();
            for (int side = 0; side < SIDES; side++) {
                int s = first + side;
                worths[s] = counts ? DRAWN : NONE;
                deeps[s] = 0;
                open[s] = 0;
                if (!counts) {
                    continue;
                }
                counted++;
                trial.turn = side;
                int winner = rules.winner(trial);
                if (winner != NONE) {
                    decide(s, winner, 0);
                } else {
                    linkMoves(s);
                }
            }
        }

        /** Puts the pieces as the digits tell; false if that's a stand that doesn't count. */
        private boolean setUp() {
            for (int p = 0; p < rules.total; p++) {
                trial.place(p, NONE);
            }
            for (int p = 0; p < rules.total; p++) {
                int f = digits[p];
                if (f >= rules.ground.size) {
                    continue;
                }
                if (trial.holderOf(f) != NONE || !rules.bears(f, p)) {
                    return false;
                }
                trial.place(p, f);
            }
            return true;
        }

        private void linkMoves(int s) {
            for (int p = 0; p < rules.total; p++) {
                if (rules.sides[p] != trial.turn) {
                    continue;
                }
                for (int way = 0; way < WAYS; way++) {
                    int room = rules.room(trial, p, way);
                    int to = trial.fieldOf(p);
                    for (int far = 1; far <= room; far++) {
                        to = rules.ground.beside(to, way);
                        rules.findVictims(trial, p, to);
                        links.add(s, behindMove(trial, s, p, to));
                        open[s]++;
                    }
                }
            }
        }

        /** The index of the stand behind a move whose victims the rules have just looked for. */
        private int behindMove(Stand from, int index, int p, int to) {
            int shift = (to - from.fieldOf(p)) * powers[p];
            for (int k = 0; k < rules.victimCount; k++) {
                int q = rules.victims[k];
                shift += (rules.ground.size - from.fieldOf(q)) * powers[q];
            }
            return index + 2 * shift + 1 - 2 * from.turn;
        }

        private void decide(int s, int winner, int deep) {
            if (queued >= queue.length) {
                return;
            }
            worths[s] = winner;
            deeps[s] = deep;
            queue[queued] = s;
            queued++;
        }

        /** The queue runs by DEEP, so the first winning move told is the shortest, the last losing one the longest. */
        private void spread() {
            for (int i = 0; i < queued && i < queue.length; i++) {
                int target = queue[i];
                int e = links.heads[target];
                for (int n = 0; n < links.used && e != NONE; n++) {
                    inform(links.sources[e], worths[target], deeps[target] + 1);
                    e = links.nexts[e];
                }
            }
        }

        private void inform(int s, int winner, int deep) {
            if (worths[s] != DRAWN) {
                return;
            }
            open[s]--;
            if (winner == (s & 1) || open[s] == 0) {
                decide(s, winner, deep);
            }
        }

        private void tallyUp() {
            Arrays.fill(tallies, 0);
            Arrays.fill(greatest, NONE);
            for (int s = 0; s < 2 * places; s++) {
                int worth = worths[s];
                if (worth == NONE) {
                    continue;
                }
                tallies[worth * SIDES + (s & 1)]++;
                if (worth != DRAWN) {
                    greatest[worth] = Math.max(greatest[worth], deeps[s]);
                }
            }
        }

        /** NONE if the board isn't solved. */
        private int indexOf(Stand s) {
            if (!solved) {
                return NONE;
            }
            int v = 0;
            for (int p = 0; p < rules.total; p++) {
                int f = s.fieldOf(p);
                v += (f == NONE ? rules.ground.size : f) * powers[p];
            }
            int index = 2 * v + s.turn;
            return index >= 0 && index < 2 * places ? index : NONE;
        }

        int worthOf(Stand s) {
            int index = indexOf(s);
            return index == NONE ? NONE : worths[index];
        }

        int deepOf(Stand s) {
            int index = indexOf(s);
            return index == NONE ? NONE : deeps[index];
        }

        int bestMove(Stand s) {
            int index = indexOf(s);
            if (index == NONE || worths[index] != DRAWN && deeps[index] == 0) {
                return NONE;
            }
            int best = NONE;
            int bestDeep = NONE;
            for (int move = 0; move < PIECE_STEP * rules.total; move++) {
                int deep = deepKept(s, index, move);
                boolean better = worths[index] == s.turn ? deep < bestDeep : deep > bestDeep;
                if (deep != NONE && (best == NONE || better)) {
                    best = move;
                    bestDeep = deep;
                }
            }
            return best;
        }

        /** The DEEP of the stand to which a move leads, or NONE if it can't be done or doesn't keep the WORTH. */
        private int deepKept(Stand s, int index, int move) {
            int p = move / PIECE_STEP;
            int way = move % PIECE_STEP / WAY_STEP;
            int far = move % WAY_STEP + 1;
            if (!rules.isPiece(p) || rules.sides[p] != s.turn || far > rules.room(s, p, way)) {
                return NONE;
            }
            int to = rules.ground.away(s.fieldOf(p), way, far);
            rules.findVictims(s, p, to);
            int target = behindMove(s, index, p, to);
            boolean kept = target >= 0 && target < 2 * places && worths[target] == worths[index];
            return kept ? deeps[target] : NONE;
        }

        int tally(int worth, int side) {
            if (!solved || worth < 0 || worth >= WORTHS || !isSide(side)) {
                return NONE;
            }
            return tallies[worth * SIDES + side];
        }

        int greatestDeep(int side) {
            return solved && isSide(side) ? greatest[side] : NONE;
        }

        int worthAt(int v, int side) {
            boolean there = solved && isSide(side) && v >= 0 && v < places;
            return there ? worths[2 * v + side] : NONE;
        }
    }
}
