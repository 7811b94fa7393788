/** What the project's tests share: answers compared with those that are due, and a count of the wrong ones. */
final class Check {
    interface Call {
        long answer();
    }

    interface Act {
        void run();
    }

    static final String INDEX = "IndexOutOfBoundsException";
    static final String ARGUMENT = "IllegalArgumentException";
    static final String STATE = "IllegalStateException";

    private static int wrong = 0;
    private static int seen = 0;

    private Check() {
    }

    static void same(String what, long got, long due) {
        same(what, Long.toString(got), Long.toString(due));
    }

    static void same(String what, boolean got, boolean due) {
        same(what, Boolean.toString(got), Boolean.toString(due));
    }

    static void same(String what, String got, String due) {
        seen++;
        if (!got.equals(due)) {
            wrong++;
            if (wrong <= 50) {
                System.out.println(what + " answered " + got + ", due is " + due);
            }
        }
    }

    /** The answer as text, or the very class that was thrown: a subclass would be the machine's own throw. */
    static String told(Call call) {
        try {
            return Long.toString(call.answer());
        } catch (RuntimeException e) {
            return "throws." + e.getClass().getSimpleName();
        }
    }

    static void thrown(String what, String due, Act act) {
        same(what, told(() -> {
            act.run();
            return 0;
        }), "throws." + due);
    }

    /** All that calls can tell of an object without changing it; more than 512 calls, which this class bears. */
    static String state(JointSolids x) {
        StringBuilder all = new StringBuilder();
        for (int p = 0; p < 8; p++) {
            int part = p;
            all.append("part ").append(told(() -> x.pieces(part))).append(' ').append(told(() -> x.volume(part)));
            for (int i = 0; i < 24; i++) {
                for (int k = 0; k < 6; k++) {
                    int piece = i;
                    int corner = k;
                    all.append(' ').append(told(() -> x.corner(part, piece, corner)));
                }
            }
        }
        for (int j = 0; j < 12; j++) {
            for (int k = 0; k < 6; k++) {
                int joint = j;
                int what = k;
                all.append(" about ").append(told(() -> x.about(joint, what)));
            }
            int joint = j;
            all.append(" strength ").append(told(() -> x.strength(joint)));
        }
        return all.append(" first ").append(x.first()).toString();
    }

    /** The pieces of a part as text, in their order. */
    static String pieces(JointSolids x, int part) {
        StringBuilder all = new StringBuilder();
        for (int i = 0; i < x.pieces(part); i++) {
            all.append(i == 0 ? "" : " | ");
            for (int k = 0; k < 6; k++) {
                all.append(k == 0 ? "" : " ").append(x.corner(part, i, k));
            }
        }
        return all.toString();
    }

    static void end(String test) {
        System.out.println(test + ": " + seen + " answers compared, " + wrong + " not as due");
        if (wrong != 0) {
            System.exit(1);
        }
    }
}
