import java.util.ArrayList;
import java.util.HashSet;
import java.util.List;
import java.util.Set;

/** Long runs of calls on small numbers, each answer compared with a slow model that counts unit cells and faces. */
public final class ModelTest {
    private static final int RUNS = 4000;
    /** An object is made for so many calls. */
    private static final int CALLS = 512;
    /** As many calls as tell all pieces of a full part. */
    private static final int LOOK = 1 + 24 * 6;

    /** A box as the document has it: x, y, z to X, Y, Z. */
    private record Box(int x, int y, int z, int ex, int ey, int ez) {
        boolean real() {
            return x < ex && y < ey && z < ez;
        }

        Box with(Box o) {
            return new Box(Math.max(x, o.x), Math.max(y, o.y), Math.max(z, o.z),
                Math.min(ex, o.ex), Math.min(ey, o.ey), Math.min(ez, o.ez));
        }

        int low(int axis) {
            return axis == 0 ? x : axis == 1 ? y : z;
        }

        int high(int axis) {
            return axis == 0 ? ex : axis == 1 ? ey : ez;
        }

        Box along(int axis, int from, int to) {
            return axis == 0 ? new Box(from, y, z, to, ey, ez)
                : axis == 1 ? new Box(x, from, z, ex, to, ez) : new Box(x, y, from, ex, ey, to);
        }

        /** What is left of this box without another that it meets, in the document's order. */
        List<Box> without(Box o) {
            Box m = with(o);
            List<Box> all = new ArrayList<>();
            all.add(new Box(x, y, z, m.x, ey, ez));
            all.add(new Box(m.ex, y, z, ex, ey, ez));
            all.add(new Box(m.x, y, z, m.ex, m.y, ez));
            all.add(new Box(m.x, m.ey, z, m.ex, ey, ez));
            all.add(new Box(m.x, m.y, z, m.ex, m.ey, m.z));
            all.add(new Box(m.x, m.y, m.ez, m.ex, m.ey, ez));
            all.removeIf(b -> !b.real());
            return all;
        }
    }

    private static final class Model {
        final List<Box> stocks = new ArrayList<>();
        final List<List<Box>> parts = new ArrayList<>();
        final List<long[]> joints = new ArrayList<>();
        final int[] rows = new int[5];
        int clearance = 0;

        static String fail(String name) {
            return "throws." + name;
        }

        boolean none(int part) {
            return part < 0 || part >= parts.size();
        }

        static boolean in(int v, int low, int high) {
            return low <= v && v <= high;
        }

        static boolean box(int reach, int[] n, int at) {
            for (int i = 0; i < 3; i++) {
                if (!in(n[at + i], -reach, reach) || !in(n[at + 3 + i], 1, reach)) {
                    return false;
                }
            }
            return true;
        }

        static Box boxOf(int[] n, int at) {
            return new Box(n[at], n[at + 1], n[at + 2], n[at] + n[at + 3], n[at + 1] + n[at + 4], n[at + 2] + n[at + 5]);
        }

        String part(int[] n) {
            if (!box(1000, n, 0)) {
                return fail(Check.ARGUMENT);
            }
            if (parts.size() == 8) {
                return fail(Check.STATE);
            }
            stocks.add(boxOf(n, 0));
            parts.add(List.of(boxOf(n, 0)));
            return "" + (parts.size() - 1);
        }

        /** The pieces without a box; null if there would be too many. */
        static List<Box> less(List<Box> pieces, Box box) {
            if (pieces == null) {
                return null;
            }
            List<Box> left = new ArrayList<>();
            for (Box p : pieces) {
                if (p.with(box).real()) {
                    left.addAll(p.without(box));
                } else {
                    left.add(p);
                }
            }
            return left.size() > 24 ? null : left;
        }

        String cut(int[] n) {
            if (none(n[0])) {
                return fail(Check.INDEX);
            }
            if (!box(2000, n, 1)) {
                return fail(Check.ARGUMENT);
            }
            List<Box> left = less(parts.get(n[0]), boxOf(n, 1));
            if (left == null) {
                return fail(Check.STATE);
            }
            boolean some = !left.equals(parts.get(n[0]));
            parts.set(n[0], left);
            return some ? "1" : "0";
        }

        String joint(int kind, int a, int b, int axis, int width) {
            if (!in(kind, 0, 4) || none(a) || none(b) || !in(axis, 0, 2)) {
                return fail(Check.INDEX);
            }
            if (a == b || !in(width, 1, 1000)) {
                return fail(Check.ARGUMENT);
            }
            Box common = stocks.get(a).with(stocks.get(b));
            int size = common.high(axis) - common.low(axis);
            if (joints.size() == 12 || !common.real() || kind == 2 && size > 8 * width) {
                return fail(Check.STATE);
            }
            int least = new int[] {2, 1, 2 * width, 3, 3}[kind];
            if (size < least) {
                return "" + (-1 - (least - size));
            }
            List<Box> leftA = parts.get(a);
            List<Box> leftB = parts.get(b);
            for (int[] span : lost(kind, size, width, true)) {
                int from = Math.max(common.low(axis), common.low(axis) + span[0] - clearance);
                int to = Math.min(common.high(axis), common.low(axis) + span[1] + clearance);
                leftA = less(leftA, common.along(axis, from, to));
            }
            for (int[] span : lost(kind, size, width, false)) {
                leftB = less(leftB, common.along(axis, common.low(axis) + span[0], common.low(axis) + span[1]));
            }
            if (leftA == null || leftB == null) {
                return fail(Check.STATE);
            }
            long lostA = cells(parts.get(a)).size() - cells(leftA).size();
            long lostB = cells(parts.get(b)).size() - cells(leftB).size();
            parts.set(a, leftA);
            parts.set(b, leftB);
            joints.add(new long[] {kind, a, b, axis, lostA, lostB});
            return "" + (joints.size() - 1);
        }

        static int[][] lost(int kind, int size, int f, boolean byA) {
            int half = size / 2;
            int t = size / 3;
            switch (kind) {
                case JointSolids.LAP:
                    return byA ? new int[][] {{half, size}} : new int[][] {{0, half}};
                case JointSolids.HOUSING:
                    return byA ? new int[][] {{0, size}} : new int[0][];
                case JointSolids.TENON:
                    return byA ? new int[][] {{t, size - t}} : new int[][] {{0, t}, {size - t, size}};
                case JointSolids.BRIDLE:
                    return byA ? new int[][] {{0, t}, {size - t, size}} : new int[][] {{t, size - t}};
                default:
                    List<int[]> all = new ArrayList<>();
                    for (int from = byA ? 0 : f; from < size; from += 2 * f) {
                        all.add(new int[] {from, Math.min(size, from + f)});
                    }
                    return all.toArray(new int[0][]);
            }
        }

        static int key(int x, int y, int z) {
            return ((x + 100) * 300 + y + 100) * 300 + z + 100;
        }

        static Set<Integer> cells(List<Box> pieces) {
            Set<Integer> all = new HashSet<>();
            for (Box p : pieces) {
                for (int x = p.x; x < p.ex; x++) {
                    for (int y = p.y; y < p.ey; y++) {
                        for (int z = p.z; z < p.ez; z++) {
                            all.add(key(x, y, z));
                        }
                    }
                }
            }
            return all;
        }

        /** Unit faces of pieces: where they are, across which axis, and whether they close a piece above or below. */
        static Set<String> faces(List<Box> pieces, boolean above) {
            Set<String> all = new HashSet<>();
            for (Box p : pieces) {
                for (int axis = 0; axis < 3; axis++) {
                    int at = above ? p.high(axis) : p.low(axis);
                    for (int cell : cells(List.of(p.along(axis, at, at + 1)))) {
                        all.add(axis + ":" + cell);
                    }
                }
            }
            return all;
        }

        String pair(int a, int b, boolean area) {
            if (none(a) || none(b)) {
                return fail(Check.INDEX);
            }
            if (a == b) {
                return fail(Check.ARGUMENT);
            }
            return "" + (area ? touch(a, b) : overlap(a, b));
        }

        long overlap(int a, int b) {
            Set<Integer> both = cells(parts.get(a));
            both.retainAll(cells(parts.get(b)));
            return both.size();
        }

        long touch(int a, int b) {
            Set<String> right = faces(parts.get(a), true);
            right.retainAll(faces(parts.get(b), false));
            Set<String> left = faces(parts.get(a), false);
            left.retainAll(faces(parts.get(b), true));
            return right.size() + left.size();
        }

        /** A place is of a part if one of the eight unit cells round it is. */
        String has(int part, int x, int y, int z) {
            if (none(part)) {
                return fail(Check.INDEX);
            }
            Set<Integer> all = cells(parts.get(part));
            for (int i = 0; i < 8; i++) {
                if (all.contains(key(x - (i & 1), y - (i >> 1 & 1), z - (i >> 2 & 1)))) {
                    return "1";
                }
            }
            return "0";
        }

        String corner(int part, int piece, int k) {
            if (none(part) || !in(piece, 0, parts.get(part).size() - 1) || !in(k, 0, 5)) {
                return fail(Check.INDEX);
            }
            Box p = parts.get(part).get(piece);
            return "" + (k < 3 ? p.low(k) : p.high(k - 3));
        }

        String about(int joint, int what) {
            return !in(joint, 0, joints.size() - 1) || !in(what, 0, 5) ? fail(Check.INDEX) : "" + joints.get(joint)[what];
        }

        String strength(int joint) {
            if (!in(joint, 0, joints.size() - 1)) {
                return fail(Check.INDEX);
            }
            long[] j = joints.get(joint);
            return "" + touch((int) j[1], (int) j[2]) * rows[(int) j[0]] / 100;
        }

        String first() {
            for (int pair = 0; pair < 64; pair++) {
                int a = pair / 8;
                int b = pair % 8;
                if (a < b && b < parts.size() && overlap(a, b) > 0) {
                    return "" + pair;
                }
            }
            return "-1";
        }

        String clear(int c) {
            if (!in(c, 0, 100)) {
                return fail(Check.ARGUMENT);
            }
            clearance = c;
            return "0";
        }

        String row(int kind, int v) {
            if (!in(kind, 0, 4) || !in(v, 0, 10000)) {
                return fail(in(kind, 0, 4) ? Check.ARGUMENT : Check.INDEX);
            }
            rows[kind] = v;
            return "0";
        }
    }

    private long seed;
    private int used;

    private ModelTest(long seed) {
        this.seed = seed;
    }

    /** A number from low to high, the same ones in every run of the test. */
    private int pick(int low, int high) {
        seed = seed * 6364136223846793005L + 1442695040888963407L;
        return low + (int) ((seed >>> 33) % (high - low + 1));
    }

    /** Mostly a good number, now and then one that is just beside the good ones or far from them. */
    private int mostly(int low, int high, int least, int most) {
        int way = pick(0, 59);
        if (way == 0) {
            return pick(0, 1) == 0 ? least - 1 : most + 1;
        }
        if (way == 1) {
            return pick(0, 1) == 0 ? Integer.MIN_VALUE : Integer.MAX_VALUE;
        }
        return pick(low, high);
    }

    private int aPart(Model m) {
        return mostly(0, Math.max(0, m.parts.size() - 1), 0, m.parts.size() - 1);
    }

    private int[] aBox(int reach, int size) {
        int[] n = new int[6];
        for (int i = 0; i < 3; i++) {
            n[i] = mostly(-2, 7, -reach, reach);
            n[i + 3] = mostly(1, pick(0, 3) == 0 ? 1 : size, 1, reach);
        }
        return n;
    }

    private void run(int number) {
        JointSolids x = new JointSolids();
        Model m = new Model();
        int size = pick(2, 9);
        for (int i = 0; used + 2 + 2 * LOOK <= CALLS; i++) {
            String what = "run " + number + ", step " + i + ": ";
            used += 2;
            switch (i < 3 ? 0 : pick(0, 13)) {
                case 0: {
                    if (i >= 3 && pick(0, 9) > 0) {
                        break;
                    }
                    int[] n = aBox(1000, size);
                    if (inGrid(n, 0)) {
                        Check.same(what + "part", Check.told(() -> x.part(n[0], n[1], n[2], n[3], n[4], n[5])), m.part(n));
                    }
                    break;
                }
                case 1:
                case 2:
                    changeByCut(what, x, m, pick(1, 4));
                    break;
                case 3:
                    changeByJoint(what, x, m);
                    break;
                case 4: {
                    int c = mostly(0, 3, 0, 100);
                    Check.same(what + "clear", done(() -> x.clear(c)), m.clear(c));
                    int kind = mostly(0, 4, 0, 4);
                    int v = mostly(0, 10000, 0, 10000);
                    Check.same(what + "row", done(() -> x.row(kind, v)), m.row(kind, v));
                    break;
                }
                default:
                    ask(what, x, m, pick(0, 8));
                    break;
            }
        }
        for (int p = 0; p < m.parts.size(); p++) {
            look("run " + number + ", in the end: ", x, m, p);
        }
    }

    /** Compares all pieces of a part, as long as the object has calls left for it. */
    private void look(String what, JointSolids x, Model m, int part) {
        if (!m.none(part) && used + LOOK <= CALLS) {
            used += 1 + 6 * m.parts.get(part).size();
            Check.same(what + "the pieces of " + part, Check.pieces(x, part), text(m.parts.get(part)));
        }
    }

    private static String done(Check.Act act) {
        return Check.told(() -> {
            act.run();
            return 0;
        });
    }

    private static String text(List<Box> pieces) {
        StringBuilder all = new StringBuilder();
        for (Box p : pieces) {
            all.append(all.length() == 0 ? "" : " | ").append(p.x).append(' ').append(p.y).append(' ').append(p.z)
                .append(' ').append(p.ex).append(' ').append(p.ey).append(' ').append(p.ez);
        }
        return all.toString();
    }

    /** Large boxes that are allowed would be too many cells for the model. */
    private static boolean inGrid(int[] n, int at) {
        if (!Model.box(1000, n, at)) {
            return true;
        }
        for (int i = 0; i < 3; i++) {
            if (!Model.in(n[at + i], -50, 50) || n[at + i + 3] > 50) {
                return false;
            }
        }
        return true;
    }

    private void changeByCut(String what, JointSolids x, Model m, int size) {
        int[] box = aBox(2000, size);
        int[] n = {aPart(m), box[0], box[1], box[2], box[3], box[4], box[5]};
        String got = Check.told(() -> x.cut(n[0], n[1], n[2], n[3], n[4], n[5], n[6]) ? 1 : 0);
        Check.same(what + "cut", got, m.cut(n));
        if (pick(0, 3) == 0) {
            look(what, x, m, n[0]);
        }
    }

    private void changeByJoint(String what, JointSolids x, Model m) {
        if (m.joints.size() > 4 && pick(0, 7) > 0) {
            return;
        }
        int kind = mostly(0, 4, 0, 4);
        int a = aPart(m);
        int b = aPart(m);
        int axis = mostly(0, 2, 0, 2);
        int width = mostly(1, 3, 1, 1000);
        Check.same(what + "joint", Check.told(() -> x.joint(kind, a, b, axis, width)), m.joint(kind, a, b, axis, width));
        if (pick(0, 1) == 0) {
            look(what, x, m, a);
            look(what, x, m, b);
        }
    }

    private void ask(String what, JointSolids x, Model m, int which) {
        int a = aPart(m);
        int b = aPart(m);
        int j = mostly(0, Math.max(0, m.joints.size() - 1), 0, m.joints.size() - 1);
        int k = mostly(0, 5, 0, 5);
        switch (which) {
            case 0:
                Check.same(what + "pieces", Check.told(() -> x.pieces(a)),
                    m.none(a) ? Model.fail(Check.INDEX) : "" + m.parts.get(a).size());
                break;
            case 1: {
                int piece = m.none(a) ? 0 : mostly(0, m.parts.get(a).size(), 0, m.parts.get(a).size() - 1);
                Check.same(what + "corner", Check.told(() -> x.corner(a, piece, k)), m.corner(a, piece, k));
                break;
            }
            case 2:
                Check.same(what + "volume", Check.told(() -> x.volume(a)),
                    m.none(a) ? Model.fail(Check.INDEX) : "" + Model.cells(m.parts.get(a)).size());
                break;
            case 3:
                Check.same(what + "overlap", Check.told(() -> x.overlap(a, b)), m.pair(a, b, false));
                break;
            case 4:
                Check.same(what + "touch", Check.told(() -> x.touch(a, b)), m.pair(a, b, true));
                break;
            case 5: {
                int[] n = {pick(-3, 17), pick(-3, 17), pick(-3, 17)};
                Check.same(what + "has", Check.told(() -> x.has(a, n[0], n[1], n[2]) ? 1 : 0), m.has(a, n[0], n[1], n[2]));
                break;
            }
            case 6:
                Check.same(what + "about", Check.told(() -> x.about(j, k)), m.about(j, k));
                break;
            case 7:
                Check.same(what + "strength", Check.told(() -> x.strength(j)), m.strength(j));
                break;
            default:
                Check.same(what + "first", Check.told(x::first), m.first());
                break;
        }
    }

    public static void main(String[] args) {
        for (int i = 0; i < RUNS; i++) {
            new ModelTest(i).run(i);
        }
        Check.end("ModelTest");
    }
}
