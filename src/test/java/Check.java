import java.util.List;

/** Counts the answers that are not as due; a test ends by end(). */
final class Check {
    private int calls = 0;
    private int wrong = 0;

    void due(String what, int want, int got) {
        calls++;
        if (got != want) {
            wrong++;
            System.out.println(what + " answered " + got + ", due is " + want);
        }
    }

    void due(String what, boolean want, boolean got) {
        due(what, want ? 1 : 0, got ? 1 : 0);
    }

    /** Two objects' answers to the same questions; the first that differs is told. */
    void same(String what, List<String> want, List<String> got) {
        calls++;
        if (want.equals(got)) {
            return;
        }
        wrong++;
        int i = 0;
        while (i < want.size() && i < got.size() && want.get(i).equals(got.get(i))) {
            i++;
        }
        System.out.println(what + ": " + at(got, i) + ", due is " + at(want, i));
    }

    private static String at(List<String> answers, int i) {
        return i < answers.size() ? answers.get(i) : "no answer " + i;
    }

    void end() {
        System.out.println(calls + " answers looked at, " + wrong + " not as due");
        if (wrong != 0 || calls == 0) {
            System.exit(1);
        }
    }
}
