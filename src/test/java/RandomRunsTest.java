import java.util.ArrayList;
import java.util.List;
import java.util.Random;

/** Runs of calls drawn from fixed seeds, each answer set against Model's. */
public final class RandomRunsTest {
    private static final int RUNS = 3000;
    private static final int CALLS = 512;

    private final Random dice;
    private final KingTable table = new KingTable();
    private final Model model = new Model();
    private final List<String> calls = new ArrayList<>();
    private int left = CALLS;
    private boolean right = true;

    private RandomRunsTest(long seed) {
        dice = new Random(seed);
    }

    public static void main(String[] args) {
        int wrong = 0;
        for (int seed = 0; seed < RUNS && wrong < 1; seed++) {
            RandomRunsTest run = new RandomRunsTest(seed);
            run.play();
            if (!run.right) {
                wrong++;
                System.out.println("seed " + seed + ": " + String.join("; ", run.calls));
            }
        }
        System.out.println(wrong + " runs not as the model's");
        if (wrong != 0) {
            System.exit(1);
        }
    }

    private boolean goesOn() {
        return right && left > 0;
    }

    private int see(String call, int got, int want) {
        left--;
        calls.add(call + " = " + got);
        if (got != want) {
            right = false;
            calls.add("due is " + want);
        }
        return got;
    }

    private void see(String call, boolean got, boolean want) {
        see(call, got ? 1 : 0, want ? 1 : 0);
    }

    /** Mostly a number from 0 on below n, at times one beside the range or far off. */
    private int about(int n) {
        int odd = dice.nextInt(60);
        if (odd == 0) {
            return dice.nextInt();
        }
        return odd < 4 ? dice.nextInt(n + 4) - 2 : dice.nextInt(n);
    }

    private void play() {
        boolean small = dice.nextInt(3) > 0;
        while (goesOn()) {
            tellBoard(small);
            for (int tries = 1 + dice.nextInt(3); tries > 0 && goesOn(); tries--) {
                tellLaws();
                tellLines(small);
                int side = about(2);
                see("begin(" + side + ")", table.begin(side), model.begin(side));
                someMoves(10 + dice.nextInt(80));
                if (dice.nextInt(8) > 0) {
                    see("stop()", table.stop(), model.stop());
                    askAll();
                }
            }
        }
    }

    private void tellBoard(boolean small) {
        int lines = small ? 2 + dice.nextInt(3) : about(11);
        int fields = small ? 2 + dice.nextInt(3) : about(11);
        if (dice.nextInt(12) == 0) {
            lines = 2;
            fields = 8;
        }
        see("board(" + lines + ", " + fields + ")", table.board(lines, fields), model.board(lines, fields));
    }

    private void tellLaws() {
        if (dice.nextInt(5) == 0) {
            return;
        }
        int goal = dice.nextInt(3) == 0 ? about(2) : 0;
        int hard = dice.nextInt(20) == 0 ? about(6) : 2 + 2 * dice.nextInt(2);
        boolean takes = dice.nextInt(3) > 0;
        int reach = dice.nextInt(2) == 0 ? 0 : about(9);
        int again = about(2);
        see("law(" + goal + ", " + hard + ", " + takes + ", " + reach + ", " + again + ")",
            table.law(goal, hard, takes, reach, again), model.law(goal, hard, takes, reach, again));
    }

    private void tellLines(boolean small) {
        int lines = model.about(7);
        int width = model.about(5) / lines;
        int[] signs = new int[lines * width];
        int pieces = small && dice.nextInt(3) > 0 ? 1 + dice.nextInt(3) : dice.nextInt(1 + lines * width * 2 / 3);
        for (int i = 0; i < pieces; i++) {
            signs[dice.nextInt(signs.length)] = 1 + 2 * dice.nextInt(2) + (dice.nextInt(8) == 0 ? 1 : 0);
        }
        for (int i = 0; i < signs.length; i++) {
            signs[i] = signs[i] == 2 ? 4 : signs[i];
        }
        for (int corners = dice.nextInt(5); corners > 0; corners--) {
            boolean anywhere = dice.nextInt(3) == 0;
            int r = anywhere ? dice.nextInt(lines) : (lines - 1) * dice.nextInt(2);
            int c = anywhere ? dice.nextInt(width) : (width - 1) * dice.nextInt(2);
            signs[r * width + c] = 6;
        }
        int kings = dice.nextInt(15) == 0 ? dice.nextInt(3) : 1;
        for (; kings > 0; kings--) {
            signs[dice.nextInt(signs.length)] = dice.nextInt(4) == 0 ? 7 : 2;
        }
        if (dice.nextInt(3) == 0) {
            int f = dice.nextInt(signs.length);
            signs[f] = signs[f] == 0 ? 5 : signs[f];
        }
        for (int r = 0; r < lines; r++) {
            int v = dice.nextInt(6) == 0 ? dice.nextInt() << (3 * width) : 0;
            for (int c = 0; c < width; c++) {
                v |= signs[r * width + c] << (3 * c);
            }
            int n = dice.nextInt(20) == 0 ? about(width + 1) : width;
            see("line(" + r + ", " + n + ", " + v + ")", table.line(r, n, v), model.line(r, n, v));
        }
        int wrongLine = about(lines);
        int n = wrongLine >= 0 && wrongLine < lines ? width + 1 : width;
        see("line(" + wrongLine + ", " + n + ", 0)", table.line(wrongLine, n, 0), model.line(wrongLine, n, 0));
    }

    private void someMoves(int turns) {
        int lastPiece = 0;
        int lastWay = 0;
        int lastFar = 1;
        int idle = 0;
        for (int i = 0; i < turns && goesOn(); i++) {
            // A play that is over answers little that is new: soon go back a move, or leave it.
            idle += model.about(0) == 1 ? 0 : 1;
            if (idle > 6) {
                return;
            }
            int kind = idle > 1 && dice.nextInt(2) == 0 ? dice.nextInt(9) : dice.nextInt(40);
            if (kind == 0) {
                see("back()", table.back(), model.back());
            } else if (kind == 1) {
                see("again()", table.again(), model.again());
            } else if (kind < 5) {
                askAll();
            } else if (kind == 5) {
                solving();
            } else if (kind < 9) {
                for (int k = dice.nextInt(4); k > 0 && goesOn(); k--) {
                    see("back()", table.back(), model.back());
                    askOne(about(22));
                }
                for (int k = dice.nextInt(4); k > 0 && goesOn(); k--) {
                    see("again()", table.again(), model.again());
                    askOne(about(22));
                }
            } else {
                int move = kind < 24 ? 32 * lastPiece + 8 * ((lastWay + 2) % 4) + lastFar - 1 : anyMove();
                if (model.about(1) >= 0 && dice.nextInt(10) > 0 && model.why(move / 32, move % 32 / 8, move % 8 + 1) != 0) {
                    move = anyMove();
                }
                int piece = dice.nextInt(50) == 0 ? about(40) : move / 32;
                int way = dice.nextInt(50) == 0 ? about(4) : move % 32 / 8;
                int far = dice.nextInt(50) == 0 ? about(9) : move % 8 + 1;
                if (dice.nextInt(4) == 0) {
                    see("why(" + piece + ", " + way + ", " + far + ")", table.why(piece, way, far), model.why(piece, way, far));
                }
                int got = see("go(" + piece + ", " + way + ", " + far + ")", table.go(piece, way, far), model.go(piece, way, far));
                if (got >= 0 && dice.nextInt(2) == 0) {
                    int turn = dice.nextInt(2);
                    lastPiece = turn == 0 ? piece : lastPiece;
                    lastWay = turn == 0 ? way : lastWay;
                    lastFar = turn == 0 ? far : lastFar;
                }
                if (got > 0) {
                    askTaken();
                }
            }
        }
    }

    /** A move that can be done, if one is found in a few throws. */
    private int anyMove() {
        int pieces = Math.max(1, model.about(2));
        int move = 0;
        for (int i = 0; i < 60; i++) {
            move = 32 * dice.nextInt(pieces) + 8 * dice.nextInt(4) + Math.min(dice.nextInt(8), dice.nextInt(8));
            if (model.why(move / 32, move % 32 / 8, move % 8 + 1) == 0) {
                break;
            }
        }
        return move;
    }

    private void askTaken() {
        for (int k = 0; k < 3; k++) {
            see("took(" + k + ")", table.took(k), model.took(k));
        }
        see("about(0)", table.about(0), model.about(0));
        see("about(3)", table.about(3), model.about(3));
        see("about(8)", table.about(8), model.about(8));
    }

    private void askAll() {
        for (int k = 0; k < 22 && goesOn(); k++) {
            askOne(k);
        }
    }

    private void askOne(int k) {
        int a = about(Math.max(2, model.about(2) + 1));
        int f = about(model.about(5) + 1);
        switch (k) {
            case 0, 1, 2, 3, 4, 5, 6, 7, 8, 9 -> see("about(" + k + ")", table.about(k), model.about(k));
            case 10, 11 -> {
                int what = about(4);
                see("piece(" + a + ", " + what + ")", table.piece(a, what), model.piece(a, what));
            }
            case 12 -> see("on(" + f + ")", table.on(f), model.on(f));
            case 13 -> see("field(" + f + ")", table.field(f), model.field(f));
            case 14 -> see("took(" + (a - 1) + ")", table.took(a - 1), model.took(a - 1));
            case 15 -> see("ring()", table.ring(), model.ring());
            case 16, 17 -> see("needed(" + a + ")", table.needed(a), model.needed(a));
            case 18 -> see("worth()", table.worth(), model.worth());
            case 19 -> see("deep()", table.deep(), model.deep());
            case 20 -> see("best()", table.best(), model.best());
            default -> {
                int way = about(4);
                int far = about(9);
                see("why(" + a + ", " + way + ", " + far + ")", table.why(a, way, far), model.why(a, way, far));
            }
        }
    }

    private void solving() {
        see("solve()", table.solve(), model.solve());
        for (int worth = -1; worth <= 3; worth++) {
            int side = about(2);
            see("count(" + worth + ", " + side + ")", table.count(worth, side), model.count(worth, side));
        }
        for (int side = -1; side <= 2; side++) {
            see("most(" + side + ")", table.most(side), model.most(side));
        }
        for (int k = 0; k < 6; k++) {
            int v = about(5200 >> dice.nextInt(8));
            int side = about(2);
            see("stand(" + v + ", " + side + ")", table.stand(v, side), model.stand(v, side));
        }
        for (int k = 18; k < 21; k++) {
            askOne(k);
        }
    }
}
