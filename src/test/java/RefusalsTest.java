/**
 * "A call that throws changes nothing; of several exceptions the one named first is thrown": each call with several
 * wrong numbers at once, in objects that have no room for it either.
 */
public final class RefusalsTest {
    private static final int[] NO_PART = {-1, 8, Calls.LOW, Calls.HIGH};
    private static final int[] NO_KIND = {-1, 5, Calls.LOW, Calls.HIGH};
    private static final int[] NO_AXIS = {-1, 3, Calls.LOW, Calls.HIGH};
    private static final int[] NO_WIDTH = {0, 1001, Calls.LOW, Calls.HIGH};

    private RefusalsTest() {
    }

    private static void refused(String what, Check.Maker maker, Calls call, int[] numbers, String due) {
        Check.refused(what + " " + java.util.Arrays.toString(numbers), maker, x -> call.on(x, numbers), due);
    }

    /** What is due is thrown for the numbers with each pair of wrong ones, one at each of two places. */
    private static void pairs(String what, Check.Maker maker, Calls call, int[] numbers, int at, int[] wrong, int other,
            int[] alsoWrong, String due) {
        for (int v : wrong) {
            for (int w : alsoWrong) {
                refused(what, maker, call, Calls.with(Calls.with(numbers, at, v), other, w), due);
            }
        }
    }

    private static int[] wrongPlaces(int reach) {
        return new int[] {-reach - 1, reach + 1, Calls.LOW, Calls.HIGH};
    }

    private static int[] wrongSizes(int reach) {
        return new int[] {0, reach + 1, Calls.LOW, Calls.HIGH};
    }

    /** A wrong number before no room; and two wrong numbers at once. */
    private static void part() {
        int[] cube = {0, 0, 0, 1, 1, 1};
        for (int place = 0; place < 3; place++) {
            for (int size = 3; size < 6; size++) {
                pairs("part: a place and a size", Samples::joined, Calls.PART, cube, place, wrongPlaces(1000), size,
                    wrongSizes(1000), Check.ARGUMENT);
                pairs("part: a place, a size and no room", Samples::full, Calls.PART, cube, place,
                    wrongPlaces(1000), size, wrongSizes(1000), Check.ARGUMENT);
            }
        }
    }

    /** No such part, then a wrong number, then no room. */
    private static void cut() {
        int[] inside = {0, 3, 3, 3, 3, 3, 3};
        refused("cut: no room", Samples::full, Calls.CUT, inside, Check.STATE);
        for (int at = 1; at < 7; at++) {
            int[] wrong = at < 4 ? wrongPlaces(2000) : wrongSizes(2000);
            for (int v : wrong) {
                refused("cut: a wrong number and no room", Samples::full, Calls.CUT, Calls.with(inside, at, v),
                    Check.ARGUMENT);
            }
            pairs("cut: no part and a wrong number", Samples::joined, Calls.CUT, inside, 0, NO_PART, at, wrong,
                Check.INDEX);
            pairs("cut: no part and a wrong number, of a full object", Samples::full, Calls.CUT, inside, 0, NO_PART,
                at, wrong, Check.INDEX);
            pairs("cut: the part after the last", Samples::joined, Calls.CUT, inside, 0, new int[] {3, 7}, at, wrong,
                Check.INDEX);
        }
    }

    /** Objects in which a joint of parts 0 and 1 has one hindrance, whichever kind and axis it is of. */
    private static Check.Maker[] hindered() {
        return new Check.Maker[] {
            Samples::pair,
            Samples::twelveJoints,
            () -> Samples.marked(Samples.object(0, 0, 0, 9, 9, 9, 9, 9, 9, 9, 9, 9)),
            () -> Samples.marked(Samples.object(0, 0, 0, 900, 900, 900, 0, 0, 0, 900, 900, 900)),
            () -> Samples.marked(Samples.object(0, 0, 0, 1, 1, 1, 0, 0, 0, 1, 1, 1)),
            RefusalsTest::withoutRoom,
        };
    }

    /** Part 0 is full; part 1 lies in its cube. */
    private static JointSolids withoutRoom() {
        JointSolids x = Samples.comb(24);
        x.part(2, 2, 2, 6, 6, 6);
        return Samples.marked(x);
    }

    /** No such kind, part or axis, then both are one or a wrong width, whatever else would hinder the joint. */
    private static void jointByNumbers() {
        int[] numbers = {JointSolids.FINGERS, 0, 1, 0, 1};
        int[][] noIndex = {NO_KIND, NO_PART, NO_PART, NO_AXIS};
        for (Check.Maker maker : hindered()) {
            for (int at = 0; at < 4; at++) {
                pairs("joint: no such number and a wrong width", maker, Calls.JOINT, numbers, at, noIndex[at], 4,
                    NO_WIDTH, Check.INDEX);
                for (int v : noIndex[at]) {
                    refused("joint: no such number", maker, Calls.JOINT, Calls.with(numbers, at, v), Check.INDEX);
                }
            }
            pairs("joint: both are one, of no kind", maker, Calls.JOINT, Calls.with(numbers, 2, 0), 0, NO_KIND, 4,
                new int[] {0, 1, 1001}, Check.INDEX);
            pairs("joint: both are one, along no axis", maker, Calls.JOINT, Calls.with(numbers, 2, 0), 3, NO_AXIS, 4,
                new int[] {0, 1, 1001}, Check.INDEX);
            pairs("joint: both are one and no width", maker, Calls.JOINT, numbers, 2, new int[] {0}, 4, NO_WIDTH,
                Check.ARGUMENT);
            for (int kind = 0; kind < 5; kind++) {
                int[] ofKind = Calls.with(numbers, 0, kind);
                refused("joint: both are one", maker, Calls.JOINT, Calls.with(ofKind, 2, 0), Check.ARGUMENT);
                refused("joint: both are one", maker, Calls.JOINT, Calls.with(ofKind, 1, 1), Check.ARGUMENT);
                for (int width : NO_WIDTH) {
                    refused("joint: a wrong width", maker, Calls.JOINT, Calls.with(ofKind, 4, width), Check.ARGUMENT);
                }
            }
        }
        for (int part : NO_PART) {
            refused("joint: both are one that is none", Samples::pair, Calls.JOINT,
                new int[] {JointSolids.LAP, part, part, 0, 1}, Check.INDEX);
        }
    }

    /** "there are 12, no COMMON box, more than 8 slices (all this before what is lacking is told), or no room". */
    private static void jointByState() {
        int[] lap = {JointSolids.LAP, 0, 1, 2, 1};
        Check.leaves("joint: it lacks 1", Samples::pair, x -> x.joint(JointSolids.TENON, 0, 1, 2, 1), "-2");
        for (int width : new int[] {1, 2, 1000}) {
            for (int kind = 0; kind < 5; kind++) {
                int[] numbers = {kind, 0, 1, 2, width};
                refused("joint: a thirteenth, lacking or not", Samples::twelveJoints, Calls.JOINT, numbers, Check.STATE);
                refused("joint: a thirteenth of no common box", Samples::twelveJoints, Calls.JOINT,
                    Calls.with(numbers, 2, 2), Check.STATE);
                refused("joint: no common box, lacking or not", Samples::pair, Calls.JOINT, Calls.with(numbers, 2, 2),
                    Check.STATE);
            }
        }
        refused("joint: a thirteenth of 9 slices", () -> twelveOf(9), Calls.JOINT,
            new int[] {JointSolids.FINGERS, 0, 1, 0, 1}, Check.STATE);
        refused("joint: 9 slices and no room", RefusalsTest::fullWithLong, Calls.JOINT,
            new int[] {JointSolids.FINGERS, 0, 1, 0, 1}, Check.STATE);
        Check.leaves("joint: no room, but lacking is told before", RefusalsTest::withoutRoom,
            x -> x.joint(JointSolids.FINGERS, 0, 1, 0, 4), "-3");
        refused("joint: no room", RefusalsTest::withoutRoom, Calls.JOINT, new int[] {JointSolids.FINGERS, 0, 1, 0, 3},
            Check.STATE);
        Check.same("joint: with room", Check.told(() -> Calls.JOINT.on(Samples.pair(), lap)), "0");
    }

    private static JointSolids twelveOf(int size) {
        JointSolids x = Samples.object(0, 0, 0, size, 1, 1, 0, 0, 0, size, 1, 1);
        for (int i = 0; i < 12; i++) {
            x.joint(JointSolids.HOUSING, 0, 1, 0, 1);
        }
        return x;
    }

    private static JointSolids fullWithLong() {
        JointSolids x = Samples.comb(24);
        x.part(1, 1, 1, 9, 6, 6);
        return Samples.marked(x);
    }

    /** No such part before both are one; no such kind before a wrong row. */
    private static void others() {
        for (Calls call : new Calls[] {Calls.OVERLAP, Calls.TOUCH}) {
            for (int part : NO_PART) {
                refused("both are one that is none", Samples::full, call, new int[] {part, part}, Check.INDEX);
            }
            pairs("two that are none", Samples::joined, call, new int[] {0, 0}, 0, NO_PART, 1, NO_PART, Check.INDEX);
        }
        for (Check.Maker maker : new Check.Maker[] {JointSolids::new, Samples::joined, Samples::full}) {
            pairs("row: no kind and a wrong row", maker, Calls.ROW, new int[] {0, 0}, 0, NO_KIND, 1,
                new int[] {-1, 10001, Calls.LOW, Calls.HIGH}, Check.INDEX);
            pairs("corner: no part and no piece", maker, Calls.CORNER, new int[] {0, 0, 6}, 0, NO_PART, 1,
                new int[] {-1, 24, Calls.LOW, Calls.HIGH}, Check.INDEX);
            pairs("about: no joint and no what", maker, Calls.ABOUT, new int[] {0, 0}, 0,
                new int[] {-1, 12, Calls.LOW, Calls.HIGH}, 1, new int[] {-1, 6, Calls.LOW, Calls.HIGH}, Check.INDEX);
        }
        pairs("corner: no piece and no k", Samples::full, Calls.CORNER, new int[] {0, 0, 0}, 1,
            new int[] {-1, 24, Calls.LOW, Calls.HIGH}, 2, new int[] {-1, 6, Calls.LOW, Calls.HIGH}, Check.INDEX);
    }

    public static void main(String[] args) {
        part();
        cut();
        jointByNumbers();
        jointByState();
        others();
        Check.end("RefusalsTest");
    }
}
