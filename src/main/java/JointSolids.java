/** Joints of wood as solids of boxes, as the document DOC.md promises them, in its words. */
public final class JointSolids {
    public static final int NONE = -1;
    public static final int LAP = 0, HOUSING = 1, FINGERS = 2, TENON = 3, BRIDLE = 4;

    private static final int KINDS = 5;
    private static final int AXES = 3;
    /** A box is six numbers of a row: x, y, z, X, Y, Z. */
    private static final int CORNERS = 6;
    private static final int MOST_PARTS = 8;
    private static final int MOST_PIECES = 24;
    private static final int MOST_JOINTS = 12;
    private static final int MOST_SLICES = 8;
    private static final int PART_REACH = 1000;
    private static final int CUT_REACH = 2000;
    private static final int MOST_WIDTH = 1000;
    private static final int MOST_CLEARANCE = 100;
    private static final int MOST_ROW = 10000;

    private final Solid[] parts = new Solid[MOST_PARTS];
    private int partCount;
    /** Stock boxes, one after the other: cuts never change them, so joints can still be measured by them. */
    private final int[] stocks = new int[MOST_PARTS * CORNERS];
    private final Joint[] joints = new Joint[MOST_JOINTS];
    private int jointCount;
    private final int[] rows = new int[KINDS];
    private int clearance;

    /** Both parts of a joint are cut as drafts first: a cut that finds no room must leave the parts alone. */
    private final Solid draftA = new Solid();
    private final Solid draftB = new Solid();
    private final Solid spare = new Solid();
    private final int[] tool = new int[CORNERS];
    private final int[] rest = new int[CORNERS];
    private final int[] common = new int[CORNERS];
    /** Where the spans of a joint begin and end along its axis; the first always begins at 0. */
    private final int[] marks = new int[MOST_SLICES + 1];

    public JointSolids() {
    }

    public int part(int x, int y, int z2, int w, int h, int d)
            throws IllegalArgumentException, IllegalStateException {
        needPlaces(PART_REACH, x, y, z2);
        needSizes(PART_REACH, w, h, d);
        if (partCount >= MOST_PARTS) {
            throw new IllegalStateException("there is no room for a part more");
        }
        setTool(x, y, z2, w, h, d);
        System.arraycopy(tool, 0, stocks, partCount * CORNERS, CORNERS);
        Solid solid = new Solid();
        solid.add(tool, 0);
        parts[partCount] = solid;
        partCount++;
        return partCount - 1;
    }

    public boolean cut(int part, int x, int y, int z2, int w, int h, int d)
            throws IndexOutOfBoundsException, IllegalArgumentException, IllegalStateException {
        Solid solid = solidOf(part);
        needPlaces(CUT_REACH, x, y, z2);
        needSizes(CUT_REACH, w, h, d);
        setTool(x, y, z2, w, h, d);
        long before = solid.total();
        if (!carve(solid)) {
            throw new IllegalStateException("there is no room for so many pieces");
        }
        return solid.total() < before;
    }

    public void clear(int c) throws IllegalArgumentException {
        if (c < 0 || c > MOST_CLEARANCE) {
            throw new IllegalArgumentException("a clearance is 0 .. 100");
        }
        clearance = c;
    }

    public int joint(int kind, int a, int b, int axis, int width)
            throws IndexOutOfBoundsException, IllegalArgumentException, IllegalStateException {
        needKind(kind);
        Solid solidA = solidOf(a);
        Solid solidB = solidOf(b);
        needAxis(axis);
        needTwo(a, b);
        needWidth(width);
        if (jointCount >= MOST_JOINTS) {
            throw new IllegalStateException("there is no room for a joint more");
        }
        if (!findCommon(a, b)) {
            throw new IllegalStateException("the parts have no box in common");
        }
        int size = common[axis + AXES] - common[axis];
        if (kind == FINGERS && slicesOf(size, width) > MOST_SLICES) {
            throw new IllegalStateException("there is no room for so many slices");
        }
        int lacking = leastSize(kind, width) - size;
        if (lacking > 0) {
            return -1 - lacking;
        }
        draftA.copy(solidA);
        draftB.copy(solidB);
        if (!carveSpans(kind, axis, markSpans(kind, size, width))) {
            throw new IllegalStateException("there is no room for so many pieces");
        }
        Joint made = new Joint(kind, a, b, axis);
        made.lostA = solidA.total() - draftA.total();
        made.lostB = solidB.total() - draftB.total();
        solidA.copy(draftA);
        solidB.copy(draftB);
        joints[jointCount] = made;
        jointCount++;
        return jointCount - 1;
    }

    public int pieces(int part) throws IndexOutOfBoundsException {
        return solidOf(part).count;
    }

    public int corner(int part, int piece, int k) throws IndexOutOfBoundsException {
        Solid solid = solidOf(part);
        if (piece < 0 || piece >= solid.count) {
            throw new IndexOutOfBoundsException("there is no such piece");
        }
        if (k < 0 || k >= CORNERS) {
            throw new IndexOutOfBoundsException("there is no such number of a piece");
        }
        return solid.boxes[piece * CORNERS + k];
    }

    public long volume(int part) throws IndexOutOfBoundsException {
        return solidOf(part).total();
    }

    public long overlap(int a, int b) throws IndexOutOfBoundsException, IllegalArgumentException {
        Solid solidA = solidOf(a);
        Solid solidB = solidOf(b);
        needTwo(a, b);
        return volumeOfBoth(solidA, solidB);
    }

    public long touch(int a, int b) throws IndexOutOfBoundsException, IllegalArgumentException {
        Solid solidA = solidOf(a);
        Solid solidB = solidOf(b);
        needTwo(a, b);
        return areaOfBoth(solidA, solidB);
    }

    public boolean has(int part, int x, int y, int z2) throws IndexOutOfBoundsException {
        return solidOf(part).holds(x, y, z2);
    }

    public void row(int kind, int v) throws IndexOutOfBoundsException, IllegalArgumentException {
        needKind(kind);
        if (v < 0 || v > MOST_ROW) {
            throw new IllegalArgumentException("a row is 0 .. 10000");
        }
        rows[kind] = v;
    }

    public long strength(int joint) throws IndexOutOfBoundsException {
        Joint told = jointOf(joint);
        return areaOfBoth(solidOf(told.a), solidOf(told.b)) * rows[told.kind] / 100;
    }

    public long about(int joint, int what) throws IndexOutOfBoundsException {
        Joint told = jointOf(joint);
        switch (what) {
            case 0:
                return told.kind;
            case 1:
                return told.a;
            case 2:
                return told.b;
            case 3:
                return told.axis;
            case 4:
                return told.lostA;
            case 5:
                return told.lostB;
            default:
                throw new IndexOutOfBoundsException("a joint has nothing such to tell");
        }
    }

    public int first() {
        for (int a = 0; a < partCount; a++) {
            for (int b = a + 1; b < partCount; b++) {
                if (volumeOfBoth(solidOf(a), solidOf(b)) > 0) {
                    return MOST_PARTS * a + b;
                }
            }
        }
        return NONE;
    }

    private Solid solidOf(int part) {
        if (part < 0 || part >= MOST_PARTS || parts[part] == null) {
            throw new IndexOutOfBoundsException("there is no such part");
        }
        return parts[part];
    }

    private Joint jointOf(int joint) {
        if (joint < 0 || joint >= MOST_JOINTS || joints[joint] == null) {
            throw new IndexOutOfBoundsException("there is no such joint");
        }
        return joints[joint];
    }

    private static void needKind(int kind) {
        if (kind < 0 || kind >= KINDS) {
            throw new IndexOutOfBoundsException("there is no such kind");
        }
    }

    private static void needAxis(int axis) {
        if (axis < 0 || axis >= AXES) {
            throw new IndexOutOfBoundsException("there is no such axis");
        }
    }

    private static void needWidth(int width) {
        if (width < 1 || width > MOST_WIDTH) {
            throw new IllegalArgumentException("a width is 1 .. 1000");
        }
    }

    private static void needTwo(int a, int b) {
        if (a == b) {
            throw new IllegalArgumentException("both parts are one");
        }
    }

    private static void needPlaces(int reach, int x, int y, int z) {
        if (Math.min(x, Math.min(y, z)) < -reach || Math.max(x, Math.max(y, z)) > reach) {
            throw new IllegalArgumentException("a place is too far away");
        }
    }

    private static void needSizes(int reach, int w, int h, int d) {
        if (Math.min(w, Math.min(h, d)) < 1 || Math.max(w, Math.max(h, d)) > reach) {
            throw new IllegalArgumentException("a size is too small or too large");
        }
    }

    private void setTool(int x, int y, int z, int w, int h, int d) {
        tool[0] = x;
        tool[1] = y;
        tool[2] = z;
        tool[3] = x + w;
        tool[4] = y + h;
        tool[5] = z + d;
    }

    /** Cuts the tool's box out of a solid; false, and the solid as it was, if there would be too many pieces. */
    private boolean carve(Solid solid) {
        spare.empty();
        for (int i = 0; i < solid.count; i++) {
            if (volumeShared(solid.boxes, i * CORNERS, tool, 0) > 0) {
                addRest(solid, i);
            } else {
                spare.add(solid.boxes, i * CORNERS);
            }
        }
        if (spare.count > MOST_PIECES) {
            return false;
        }
        solid.copy(spare);
        return true;
    }

    /** Adds to the spare solid what the tool leaves of a piece, axis by axis, so that the order is the promised one. */
    private void addRest(Solid solid, int piece) {
        System.arraycopy(solid.boxes, piece * CORNERS, rest, 0, CORNERS);
        for (int axis = 0; axis < AXES; axis++) {
            int low = rest[axis];
            int high = rest[axis + AXES];
            int from = Math.max(low, tool[axis]);
            int to = Math.min(high, tool[axis + AXES]);
            addSlab(axis, low, from);
            addSlab(axis, to, high);
            rest[axis] = from;
            rest[axis + AXES] = to;
        }
    }

    private void addSlab(int axis, int from, int to) {
        if (from < to) {
            rest[axis] = from;
            rest[axis + AXES] = to;
            spare.add(rest, 0);
        }
    }

    /** Sets the common box of two stocks; whether there is one. */
    private boolean findCommon(int a, int b) {
        boolean found = true;
        for (int axis = 0; axis < AXES; axis++) {
            int low = axis;
            int high = axis + AXES;
            common[low] = Math.max(stocks[a * CORNERS + low], stocks[b * CORNERS + low]);
            common[high] = Math.min(stocks[a * CORNERS + high], stocks[b * CORNERS + high]);
            found = found && common[low] < common[high];
        }
        return found;
    }

    private static int slicesOf(int size, int width) {
        return width < 1 ? 0 : (size + width - 1) / width;
    }

    private static int leastSize(int kind, int width) {
        switch (kind) {
            case LAP:
                return 2;
            case HOUSING:
                return 1;
            case FINGERS:
                return 2 * width;
            default: // TENON and BRIDLE
                return 3;
        }
    }

    /** Marks the spans of a joint, which its parts lose by turns; how many there are. */
    private int markSpans(int kind, int size, int width) {
        int spans;
        switch (kind) {
            case LAP:
                spans = 2;
                marks[1] = size / 2;
                break;
            case HOUSING:
                spans = 1;
                break;
            case FINGERS:
                spans = Math.min(slicesOf(size, width), MOST_SLICES);
                for (int i = 1; i < spans; i++) {
                    marks[i] = i * width;
                }
                break;
            default: // TENON and BRIDLE
                spans = 3;
                marks[1] = size / 3;
                marks[2] = size - size / 3;
                break;
        }
        marks[spans] = size;
        return spans;
    }

    private boolean carveSpans(int kind, int axis, int spans) {
        boolean turnOfA = kind != LAP && kind != TENON;
        for (int i = 0; i < spans; i++) {
            setSpan(axis, marks[i], marks[i + 1], turnOfA ? clearance : 0);
            if (!carve(turnOfA ? draftA : draftB)) {
                return false;
            }
            turnOfA = !turnOfA;
        }
        return true;
    }

    /** Makes the tool a slab of the common box, longer at both ends by what is more, but not beyond that box. */
    private void setSpan(int axis, int from, int to, int more) {
        System.arraycopy(common, 0, tool, 0, CORNERS);
        int low = common[axis];
        int high = common[axis + AXES];
        tool[axis] = Math.max(low, low + from - more);
        tool[axis + AXES] = Math.min(high, low + to + more);
    }

    private static long volumeOfBoth(Solid a, Solid b) {
        long sum = 0;
        for (int i = 0; i < a.count; i++) {
            for (int j = 0; j < b.count; j++) {
                sum += volumeShared(a.boxes, i * CORNERS, b.boxes, j * CORNERS);
            }
        }
        return sum;
    }

    private static long areaOfBoth(Solid a, Solid b) {
        long sum = 0;
        for (int i = 0; i < a.count; i++) {
            for (int j = 0; j < b.count; j++) {
                sum += areaShared(a.boxes, i * CORNERS, b.boxes, j * CORNERS);
            }
        }
        return sum;
    }

    /** How long two boxes run together along an axis: 0 if one ends where the other begins, less if they are apart. */
    private static int lengthShared(int[] p, int atP, int[] q, int atQ, int axis) {
        int from = Math.max(p[atP + axis], q[atQ + axis]);
        int to = Math.min(p[atP + axis + AXES], q[atQ + axis + AXES]);
        return to - from;
    }

    private static long volumeShared(int[] p, int atP, int[] q, int atQ) {
        long product = 1;
        for (int axis = 0; axis < AXES; axis++) {
            product *= Math.max(0, lengthShared(p, atP, q, atQ, axis));
        }
        return product;
    }

    /** Two boxes touch by a face if along just one axis one ends where the other begins; by an edge if along two. */
    private static long areaShared(int[] p, int atP, int[] q, int atQ) {
        long product = 1;
        int meetings = 0;
        for (int axis = 0; axis < AXES; axis++) {
            int length = lengthShared(p, atP, q, atQ, axis);
            if (length == 0) {
                meetings++;
            } else {
                product *= Math.max(0, length);
            }
        }
        return meetings == 1 ? product : 0;
    }

    /** Pieces in their order, as boxes one after the other in a row. */
    private static final class Solid {
        private final int[] boxes = new int[MOST_PIECES * CORNERS];
        private int count;

        private void empty() {
            count = 0;
        }

        /** Counts pieces beyond the row's room too, without keeping them: the count then tells that there is none. */
        private void add(int[] from, int at) {
            if (count < MOST_PIECES) {
                System.arraycopy(from, at, boxes, count * CORNERS, CORNERS);
            }
            count++;
        }

        private void copy(Solid other) {
            count = Math.min(other.count, MOST_PIECES);
            System.arraycopy(other.boxes, 0, boxes, 0, count * CORNERS);
        }

        private long total() {
            long sum = 0;
            for (int i = 0; i < count; i++) {
                int at = i * CORNERS;
                sum += volumeShared(boxes, at, boxes, at);
            }
            return sum;
        }

        private boolean holds(int x, int y, int z) {
            for (int i = 0; i < count; i++) {
                int at = i * CORNERS;
                if (boxes[at] <= x && x <= boxes[at + 3] && boxes[at + 1] <= y && y <= boxes[at + 4]
                        && boxes[at + 2] <= z && z <= boxes[at + 5]) {
                    return true;
                }
            }
            return false;
        }
    }

    private static final class Joint {
        private final int kind;
        private final int a;
        private final int b;
        private final int axis;
        private long lostA;
        private long lostB;

        private Joint(int kind, int a, int b, int axis) {
            this.kind = kind;
            this.a = a;
            this.b = b;
            this.axis = axis;
        }
    }
}
