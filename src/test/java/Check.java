/** What the project's tests share: answers compared with those that are due, and a count of the wrong ones. */
final class Check {
    interface Call {
        long answer();
    }

    interface Act {
        void run();
    }

    /** Makes a new object by the same calls each time. */
    interface Maker {
        JointSolids make();
    }

    interface Use {
        long on(JointSolids x);
    }

    static final String INDEX = "IndexOutOfBoundsException";
    static final String ARGUMENT = "IllegalArgumentException";
    static final String STATE = "IllegalStateException";

    private static int wrong = 0;
    private static int seen = 0;

    private Check() {
    }

    static void same(String what, long got, long due) {
        same(what, Long.toString(got), Long.toString(due));
    }

    static void same(String what, boolean got, boolean due) {
        same(what, Boolean.toString(got), Boolean.toString(due));
    }

    static void same(String what, String got, String due) {
        seen++;
        if (!got.equals(due)) {
            wrong++;
            if (wrong <= 50) {
                System.out.println(what + " answered " + got + ", due is " + due);
            }
        }
    }

    /** The answer as text, or the very class that was thrown: a subclass would be the machine's own throw. */
    static String told(Call call) {
        try {
            return Long.toString(call.answer());
        } catch (RuntimeException e) {
            return "throws." + e.getClass().getSimpleName();
        }
    }

    static void thrown(String what, String due, Act act) {
        same(what, told(() -> {
            act.run();
            return 0;
        }), "throws." + due);
    }

    /** The call answers what is due, and what any call tells afterwards is as if it had never been made. */
    static void leaves(String what, Maker maker, Use use, String due) {
        JointSolids x = maker.make();
        same(what, told(() -> use.on(x)), due);
        same(what + ": every answer after it", state(x), state(maker.make()));
        JointSolids y = maker.make();
        told(() -> use.on(y));
        same(what + ": later calls", later(y), later(maker.make()));
    }

    static void refused(String what, Maker maker, Use use, String due) {
        leaves(what, maker, use, "throws." + due);
    }

    /** All that calls can tell of an object without changing it, in fewer calls than the 512 that it is made for. */
    static String state(JointSolids x) {
        StringBuilder all = new StringBuilder();
        int parts = partsOf(x);
        for (int p = 0; p < parts; p++) {
            int part = p;
            int beyond = x.pieces(part);
            all.append("part ").append(x.volume(part)).append(": ").append(pieces(x, part));
            all.append(' ').append(told(() -> x.corner(part, beyond, 0))).append('\n');
        }
        for (int a = 0; a < parts; a++) {
            for (int b = a + 1; b < parts; b++) {
                all.append(' ').append(x.overlap(a, b)).append('/').append(x.touch(a, b));
            }
        }
        int joints = jointsOf(x);
        for (int j = 0; j < joints; j++) {
            all.append("\njoint ").append(x.strength(j));
            for (int what = 0; what < 6; what++) {
                all.append(' ').append(x.about(j, what));
            }
        }
        return all.append("\nfirst ").append(x.first()).toString();
    }

    static int partsOf(JointSolids x) {
        int parts = 0;
        while (parts < 9) {
            int next = parts;
            if (!isAnswer(told(() -> x.pieces(next)))) {
                break;
            }
            parts++;
        }
        return parts;
    }

    static int jointsOf(JointSolids x) {
        int joints = 0;
        while (joints < 13) {
            int next = joints;
            if (!isAnswer(told(() -> x.about(next, 0)))) {
                break;
            }
            joints++;
        }
        return joints;
    }

    static boolean isAnswer(String told) {
        return !told.startsWith("throws.");
    }

    /**
     * What calls that come later tell: it shows the clearance, the rows, and the room for parts and joints. The two
     * last parts are joined by every kind, in such an order that they touch each other to the end.
     */
    static String later(JointSolids x) {
        StringBuilder all = new StringBuilder();
        all.append(told(() -> x.part(900, 900, 900, 500, 6, 6))).append(' ');
        all.append(told(() -> x.part(900, 902, 902, 500, 2, 2))).append(' ');
        int b = partsOf(x) - 1;
        int a = b - 1;
        all.append(joined(x, JointSolids.HOUSING, a, b)).append(joined(x, JointSolids.LAP, b, a));
        x.clear(0);
        all.append(joined(x, JointSolids.FINGERS, a, b)).append(joined(x, JointSolids.TENON, b, a));
        all.append(joined(x, JointSolids.BRIDLE, a, b));
        for (int part = Math.max(a, 0); part <= b; part++) {
            all.append(pieces(x, part)).append('\n');
        }
        return all.append(x.first()).toString();
    }

    private static String joined(JointSolids x, int kind, int a, int b) {
        String number = told(() -> x.joint(kind, a, b, 0, 100));
        int last = jointsOf(x) - 1;
        return number + " strength " + told(() -> x.strength(last)) + '\n';
    }

    /** The pieces of a part as text, in their order. */
    static String pieces(JointSolids x, int part) {
        StringBuilder all = new StringBuilder();
        int count = x.pieces(part);
        for (int i = 0; i < count; i++) {
            all.append(i == 0 ? "" : " | ");
            for (int k = 0; k < 6; k++) {
                all.append(k == 0 ? "" : " ").append(x.corner(part, i, k));
            }
        }
        return all.toString();
    }

    static void end(String test) {
        System.out.println(test + ": " + seen + " answers compared, " + wrong + " not as due");
        if (wrong != 0) {
            System.exit(1);
        }
    }
}
