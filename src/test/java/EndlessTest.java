import java.util.Random;

/** No call throws or fails to end, with any arguments, in any state, also long behind the 512th call. */
public final class EndlessTest {
    private static final int[] ODD = {
        Integer.MIN_VALUE, Integer.MIN_VALUE + 1, -82, -10, -1, 0, 1, 2, 9, 40, 41, 81, 82, 512, 10000, Integer.MAX_VALUE
    };

    public static void main(String[] args) {
        Check check = new Check();
        for (int seed = 0; seed < 40; seed++) {
            Random dice = new Random(seed);
            KingTable t = new KingTable();
            for (int i = 0; i < 6000; i++) {
                call(t, dice.nextInt(60), dice);
            }
            check.due("how the play is", true, t.about(0) >= 0 && t.about(0) <= 4);
        }
        check.due("moves far beyond the limit", true, longPlay() >= 500);
        check.end();
    }

    private static int any(Random dice, int n) {
        return dice.nextInt(6) == 0 ? ODD[dice.nextInt(ODD.length)] : dice.nextInt(n);
    }

    private static void call(KingTable t, int kind, Random dice) {
        switch (kind) {
            case 0 -> t.board(any(dice, 10), any(dice, 10));
            case 1 -> t.law(any(dice, 2), any(dice, 5), dice.nextBoolean(), any(dice, 9), any(dice, 2));
            case 2 -> t.stop();
            case 3 -> t.solve();
            case 4, 5, 6 -> t.begin(any(dice, 2));
            case 7 -> t.line(any(dice, 9), any(dice, 10), dice.nextInt());
            case 8, 9, 10 -> t.line(any(dice, 9), any(dice, 10), 3 << 3 * dice.nextInt(9) | 1 << 3 * dice.nextInt(9));
            case 11 -> t.line(0, 2, 2);
            case 12 -> t.back();
            case 13 -> t.again();
            case 14 -> t.about(any(dice, 9));
            case 15 -> t.piece(any(dice, 40), any(dice, 4));
            case 16 -> t.on(any(dice, 81));
            case 17 -> t.field(any(dice, 81));
            case 18 -> t.took(any(dice, 4));
            case 19 -> t.ring();
            case 20 -> t.needed(any(dice, 40));
            case 21 -> t.worth();
            case 22 -> t.deep();
            case 23 -> t.best();
            case 24 -> t.count(any(dice, 3), any(dice, 2));
            case 25 -> t.most(any(dice, 2));
            case 26 -> t.stand(any(dice, 10000), any(dice, 2));
            case 27, 28 -> t.why(any(dice, 40), any(dice, 4), any(dice, 9));
            default -> t.go(any(dice, 12), any(dice, 4), any(dice, 4));
        }
    }

    /** The most moves that a play on a wide board came to in thousands of calls. */
    private static int longPlay() {
        KingTable t = new KingTable();
        t.law(0, 4, true, 0, 1);
        Boards.tell(t, "k........", ".........", ".........", ".........", ".........", "........r");
        t.begin(0);
        Random dice = new Random(7);
        int most = 0;
        for (int i = 0; i < 9000; i++) {
            t.go(dice.nextInt(2), dice.nextInt(4), 1 + dice.nextInt(8));
            most = Math.max(most, t.about(4));
            if (i % 2000 == 1999) {
                t.back();
                t.again();
                t.again();
            }
        }
        return most;
    }
}
