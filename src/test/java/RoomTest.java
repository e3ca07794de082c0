import com.sun.management.ThreadMXBean;
import java.lang.management.ManagementFactory;

/** What a run of 512 calls makes stays small: nothing is thrown away and made anew from call to call. */
public final class RoomTest {
    private static final ThreadMXBean THREADS = (ThreadMXBean) ManagementFactory.getThreadMXBean();
    private static final int CALLS = 512;
    private static final String[][] BOARDS = {
        {"k.", ".r"}, {"k..", "..r"}, {"k..", "...", "..r"}, {"kg.", ".r."}, {"kg..", "...r"}, {"kgr", "..r"},
        {"k...", ".g..", "...r"}, {"k......", ".......", ".......", "....r.."}, {"k...", ".g..", "....", "...r"},
        {"k.......", "g......r"}, {"k........", ".........", ".........", ".........", ".........", "........r"},
        {"k.......", "........", "........", "........", "........", "........", "........", ".......r"}
    };

    public static void main(String[] args) {
        Check check = new Check();
        due(check, "solving", solving(), 5_000_000);
        due(check, "solving", solving(), 5_000_000);
        due(check, "playing", playing(), 100_000);
        due(check, "making", making(), 32 * 60_000L);
        check.end();
    }

    private static void due(Check check, String run, long bytes, long most) {
        System.out.println(run + " made " + bytes + " bytes");
        check.due(run + " made few", true, bytes < most);
    }

    private static long made() {
        return THREADS.getThreadAllocatedBytes(Thread.currentThread().getId());
    }

    /** Boards that grow from solve to solve, over and over. */
    private static long solving() {
        int[][] signs = new int[BOARDS.length][];
        for (int b = 0; b < BOARDS.length; b++) {
            signs[b] = new int[BOARDS[b].length];
            for (int r = 0; r < signs[b].length; r++) {
                signs[b][r] = Boards.signs(BOARDS[b][r]);
            }
        }
        long before = made();
        KingTable t = new KingTable();
        int left = CALLS;
        for (int b = 0; left > 0; b = (b + 1) % BOARDS.length) {
            int width = BOARDS[b][0].length();
            t.board(signs[b].length, width);
            for (int r = 0; r < signs[b].length; r++) {
                t.line(r, width, signs[b][r]);
            }
            t.begin(0);
            if (t.solve() < 0) {
                return Long.MAX_VALUE;
            }
            left -= signs[b].length + 3;
        }
        return made() - before;
    }

    private static long playing() {
        int row = Boards.signs("grgrgr...");
        int king = Boards.signs("k........");
        long before = made();
        KingTable t = new KingTable();
        t.board(9, 9);
        for (int r = 0; r < 6; r++) {
            t.line(r, 9, row);
        }
        t.line(7, 9, king);
        t.begin(0);
        for (int i = 0; i < CALLS; i++) {
            for (int p = 0; p < 37; p++) {
                t.go(p, i % 4, 1);
                t.why(p, i % 4, 2);
                t.piece(p, 2);
                t.needed(p);
            }
            t.ring();
            t.best();
            t.back();
            t.again();
        }
        return made() - before;
    }

    private static long making() {
        long before = made();
        int begun = 0;
        for (int i = 0; i < 32; i++) {
            begun += new KingTable().begin(0);
        }
        return begun == -32 ? made() - before : Long.MAX_VALUE;
    }
}
