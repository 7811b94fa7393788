import java.util.ArrayList;
import java.util.List;
import java.util.TreeSet;

/**
 * A slow second JointSolids, good for every number that the document allows. What is of a part is told by its stock
 * and by the boxes that were cut out of it; its pieces are kept only for what the document says of pieces and faces.
 */
final class SlowSolids {
    private static final class Body {
        final int[] stock;
        final List<int[]> gone = new ArrayList<>();
        final List<int[]> pieces = new ArrayList<>();

        Body(int[] stock) {
            this.stock = stock;
            pieces.add(stock);
        }

        Body copy() {
            Body other = new Body(stock);
            other.gone.addAll(gone);
            other.pieces.clear();
            other.pieces.addAll(pieces);
            return other;
        }

        /** Whether the place, told by its doubled numbers, lies in the body, if it lies on no side of a box. */
        boolean around(long x, long y, long z) {
            if (!surrounds(stock, x, y, z)) {
                return false;
            }
            for (int[] box : gone) {
                if (surrounds(box, x, y, z)) {
                    return false;
                }
            }
            return true;
        }

        static boolean surrounds(int[] box, long x, long y, long z) {
            return 2 * box[0] < x && x < 2 * box[3] && 2 * box[1] < y && y < 2 * box[4] && 2 * box[2] < z
                && z < 2 * box[5];
        }

        /** Cuts as the document says it, piece after piece; whether there is room for what is left. */
        boolean lose(int[] box) {
            boolean met = false;
            for (int i = 0; i < pieces.size(); i++) {
                if (meet(pieces.get(i), box)) {
                    met = true;
                    List<int[]> left = shave(pieces.remove(i), box);
                    pieces.addAll(i, left);
                    i += left.size() - 1;
                }
            }
            if (met) {
                gone.add(box);
            }
            return pieces.size() <= 24;
        }

        /** What comes off on the six sides of the box, one after the other. */
        static List<int[]> shave(int[] piece, int[] box) {
            List<int[]> off = new ArrayList<>();
            int[] block = piece.clone();
            for (int axis = 0; axis < 3; axis++) {
                if (block[axis] < box[axis]) {
                    off.add(Calls.with(block, axis + 3, box[axis]));
                    block[axis] = box[axis];
                }
                if (block[axis + 3] > box[axis + 3]) {
                    off.add(Calls.with(block, axis, box[axis + 3]));
                    block[axis + 3] = box[axis + 3];
                }
            }
            return off;
        }
    }

    private static final String INDEX = "throws." + Check.INDEX;
    private static final String ARGUMENT = "throws." + Check.ARGUMENT;
    private static final String STATE = "throws." + Check.STATE;
    private static final int[] LEAST = {2, 1, 0, 3, 3};

    private final List<Body> bodies = new ArrayList<>();
    private final List<long[]> joints = new ArrayList<>();
    private final int[] rows = new int[5];
    private int clearance = 0;
    /** Why the last joint that threw IllegalStateException could not be. */
    private String hindrance = "";

    /** What a call is due to answer: a number as text (a boolean counts 1 or 0, no answer 0), or what it throws. */
    String told(String call, int... n) {
        switch (call) {
            case "part":
                return part(n);
            case "cut":
                return cut(n);
            case "clear":
                return clear(n[0]);
            case "joint":
                return joint(n[0], n[1], n[2], n[3], n[4]);
            case "row":
                return row(n[0], n[1]);
            case "overlap":
            case "touch":
                return pair(n[0], n[1], call.equals("touch"));
            case "strength":
                return noJoint(n[0]) ? INDEX : "" + strength(joints.get(n[0]));
            case "about":
                return noJoint(n[0]) || !in(n[1], 0, 5) ? INDEX : "" + joints.get(n[0])[n[1]];
            case "first":
                return "" + first();
            default:
                return noPart(n[0]) ? INDEX : "" + ofBody(call, bodies.get(n[0]), n);
        }
    }

    private static Object ofBody(String call, Body body, int[] n) {
        switch (call) {
            case "pieces":
                return body.pieces.size();
            case "volume":
                return volume(List.of(body));
            case "has":
                return has(body, n[1], n[2], n[3]) ? 1 : 0;
            case "corner":
                return in(n[1], 0, body.pieces.size() - 1) && in(n[2], 0, 5) ? body.pieces.get(n[1])[n[2]] : INDEX;
            default:
                throw new IllegalArgumentException(call);
        }
    }

    int parts() {
        return bodies.size();
    }

    int piecesOf(int part) {
        return bodies.get(part).pieces.size();
    }

    int[] piece(int part, int piece) {
        return bodies.get(part).pieces.get(piece);
    }

    int jointsMade() {
        return joints.size();
    }

    String hindrance() {
        return hindrance;
    }

    int clearance() {
        return clearance;
    }

    boolean noPart(int part) {
        return !in(part, 0, bodies.size() - 1);
    }

    private boolean noJoint(int joint) {
        return !in(joint, 0, joints.size() - 1);
    }

    private static boolean in(int v, int low, int high) {
        return low <= v && v <= high;
    }

    /** The box of the six numbers from a place on, x, y, z, w, h, d; null if they are not as said. */
    private static int[] boxOf(int reach, int[] n, int at) {
        int[] box = new int[6];
        for (int i = 0; i < 3; i++) {
            if (!in(n[at + i], -reach, reach) || !in(n[at + i + 3], 1, reach)) {
                return null;
            }
            box[i] = n[at + i];
            box[i + 3] = n[at + i] + n[at + i + 3];
        }
        return box;
    }

    private static boolean meet(int[] p, int[] q) {
        return p[0] < q[3] && q[0] < p[3] && p[1] < q[4] && q[1] < p[4] && p[2] < q[5] && q[2] < p[5];
    }

    private String part(int[] n) {
        int[] box = boxOf(1000, n, 0);
        if (box == null) {
            return ARGUMENT;
        }
        if (bodies.size() == 8) {
            return STATE;
        }
        bodies.add(new Body(box));
        return "" + (bodies.size() - 1);
    }

    private String cut(int[] n) {
        if (noPart(n[0])) {
            return INDEX;
        }
        int[] box = boxOf(2000, n, 1);
        if (box == null) {
            return ARGUMENT;
        }
        Body left = bodies.get(n[0]).copy();
        if (!left.lose(box)) {
            return STATE;
        }
        boolean some = volume(List.of(left)) < volume(List.of(bodies.get(n[0])));
        bodies.set(n[0], left);
        return some ? "1" : "0";
    }

    private String clear(int c) {
        if (!in(c, 0, 100)) {
            return ARGUMENT;
        }
        clearance = c;
        return "0";
    }

    private String row(int kind, int v) {
        if (!in(kind, 0, 4)) {
            return INDEX;
        }
        if (!in(v, 0, 10000)) {
            return ARGUMENT;
        }
        rows[kind] = v;
        return "0";
    }

    private String joint(int kind, int a, int b, int axis, int width) {
        if (!in(kind, 0, 4) || noPart(a) || noPart(b) || !in(axis, 0, 2)) {
            return INDEX;
        }
        if (a == b || !in(width, 1, 1000)) {
            return ARGUMENT;
        }
        int[] common = common(bodies.get(a).stock, bodies.get(b).stock);
        if (joints.size() == 12) {
            return hindered("12 joints");
        }
        if (common == null) {
            return hindered("no common box");
        }
        int size = common[axis + 3] - common[axis];
        if (kind == JointSolids.FINGERS && size > 8 * width) {
            return hindered("too many slices");
        }
        int least = kind == JointSolids.FINGERS ? 2 * width : LEAST[kind];
        if (size < least) {
            return "" + (size - least - 1);
        }
        Body leftA = bodies.get(a).copy();
        Body leftB = bodies.get(b).copy();
        if (!loseSpans(leftA, common, axis, spans(kind, size, width, true), clearance)
            || !loseSpans(leftB, common, axis, spans(kind, size, width, false), 0)) {
            return hindered("no room");
        }
        joints.add(new long[] {kind, a, b, axis, volume(List.of(bodies.get(a))) - volume(List.of(leftA)),
            volume(List.of(bodies.get(b))) - volume(List.of(leftB))});
        bodies.set(a, leftA);
        bodies.set(b, leftB);
        return "" + (joints.size() - 1);
    }

    private String hindered(String why) {
        hindrance = why;
        return STATE;
    }

    private static int[] common(int[] p, int[] q) {
        if (!meet(p, q)) {
            return null;
        }
        int[] box = new int[6];
        for (int i = 0; i < 3; i++) {
            box[i] = Math.max(p[i], q[i]);
            box[i + 3] = Math.min(p[i + 3], q[i + 3]);
        }
        return box;
    }

    private static boolean loseSpans(Body body, int[] common, int axis, List<int[]> spans, int more) {
        for (int[] span : spans) {
            int from = Math.max(common[axis], common[axis] + span[0] - more);
            int to = Math.min(common[axis + 3], common[axis] + span[1] + more);
            if (!body.lose(Calls.with(Calls.with(common, axis, from), axis + 3, to))) {
                return false;
            }
        }
        return true;
    }

    /** Each length of 1 is a's or b's loss; those of one part that follow each other are lost as one. */
    private static List<int[]> spans(int kind, int size, int width, boolean byA) {
        List<int[]> all = new ArrayList<>();
        int from = -1;
        for (int i = 0; i <= size; i++) {
            boolean lost = i < size && byA == isLossOfA(kind, size, width, i);
            if (lost && from < 0) {
                from = i;
            }
            if (!lost && from >= 0) {
                all.add(new int[] {from, i});
                from = -1;
            }
        }
        return all;
    }

    private static boolean isLossOfA(int kind, int size, int width, int i) {
        boolean middle = i >= size / 3 && i < size - size / 3;
        switch (kind) {
            case JointSolids.LAP:
                return i >= size / 2;
            case JointSolids.HOUSING:
                return true;
            case JointSolids.FINGERS:
                return i / width % 2 == 0;
            case JointSolids.TENON:
                return middle;
            default:
                return !middle;
        }
    }

    private static int[] marks(List<int[]> boxes, int axis) {
        TreeSet<Integer> all = new TreeSet<>();
        for (int[] box : boxes) {
            all.add(box[axis]);
            all.add(box[axis + 3]);
        }
        return all.stream().mapToInt(Integer::intValue).toArray();
    }

    /** The boxes that have the length behind a place along an axis. */
    private static List<int[]> across(List<int[]> boxes, int axis, int at) {
        List<int[]> some = new ArrayList<>();
        for (int[] box : boxes) {
            if (box[axis] <= at && at < box[axis + 3]) {
                some.add(box);
            }
        }
        return some;
    }

    /** The volume of all places that are in each of the bodies: in all their stocks, and in nothing that is gone. */
    private static long volume(List<Body> of) {
        int[] inside = of.get(0).stock;
        List<int[]> all = new ArrayList<>();
        for (Body body : of) {
            inside = inside == null ? null : common(inside, body.stock);
            all.addAll(body.gone);
        }
        if (inside == null) {
            return 0;
        }
        all.add(inside);
        return sum(all, inside, 0);
    }

    /** Slab by slab along an axis, within each along the next one: the last box alone may be there. */
    private static long sum(List<int[]> boxes, int[] inside, int axis) {
        if (axis == 3) {
            return boxes.size() == 1 && boxes.get(0) == inside ? 1 : 0;
        }
        int[] marks = marks(boxes, axis);
        long sum = 0;
        for (int i = 0; i + 1 < marks.length; i++) {
            if (inside[axis] <= marks[i] && marks[i] < inside[axis + 3]) {
                sum += (marks[i + 1] - marks[i]) * sum(across(boxes, axis, marks[i]), inside, axis + 1);
            }
        }
        return sum;
    }

    /** A place is of a part if one of the eight corners of space round it is. */
    private static boolean has(Body body, long x, long y, long z) {
        for (int i = 0; i < 8; i++) {
            if (body.around(2 * x - 1 + 2 * (i & 1), 2 * y - 1 + (i & 2), 2 * z - 1 + (i & 4) / 2)) {
                return true;
            }
        }
        return false;
    }

    private String pair(int a, int b, boolean faces) {
        if (noPart(a) || noPart(b)) {
            return INDEX;
        }
        if (a == b) {
            return ARGUMENT;
        }
        return "" + (faces ? touch(bodies.get(a), bodies.get(b)) : volume(List.of(bodies.get(a), bodies.get(b))));
    }

    private static long touch(Body a, Body b) {
        long sum = 0;
        for (int axis = 0; axis < 3; axis++) {
            for (int at : marks(a.pieces, axis)) {
                sum += both(ending(a.pieces, axis + 3, at), ending(b.pieces, axis, at), axis);
                sum += both(ending(a.pieces, axis, at), ending(b.pieces, axis + 3, at), axis);
            }
        }
        return sum;
    }

    private static List<int[]> ending(List<int[]> pieces, int side, int at) {
        List<int[]> some = new ArrayList<>();
        for (int[] piece : pieces) {
            if (piece[side] == at) {
                some.add(piece);
            }
        }
        return some;
    }

    /** The area, seen along an axis, that is covered by pieces of both kinds. */
    private static long both(List<int[]> p, List<int[]> q, int axis) {
        int u = (axis + 1) % 3;
        int v = (axis + 2) % 3;
        List<int[]> all = new ArrayList<>(p);
        all.addAll(q);
        int[] marksU = marks(all, u);
        int[] marksV = marks(all, v);
        long sum = 0;
        for (int i = 0; i + 1 < marksU.length && !p.isEmpty() && !q.isEmpty(); i++) {
            List<int[]> ofP = across(p, u, marksU[i]);
            List<int[]> ofQ = across(q, u, marksU[i]);
            for (int j = 0; j + 1 < marksV.length; j++) {
                if (!across(ofP, v, marksV[j]).isEmpty() && !across(ofQ, v, marksV[j]).isEmpty()) {
                    sum += (long) (marksU[i + 1] - marksU[i]) * (marksV[j + 1] - marksV[j]);
                }
            }
        }
        return sum;
    }

    private long strength(long[] joint) {
        return touch(bodies.get((int) joint[1]), bodies.get((int) joint[2])) * rows[(int) joint[0]] / 100;
    }

    private int first() {
        for (int pair = 0; pair < 64; pair++) {
            int a = pair / 8;
            int b = pair % 8;
            if (a < b && !noPart(b) && volume(List.of(bodies.get(a), bodies.get(b))) > 0) {
                return pair;
            }
        }
        return -1;
    }
}
