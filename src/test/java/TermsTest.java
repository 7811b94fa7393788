/** The boundary cases that the document's 'Terms' name, sentence by sentence. */
public final class TermsTest {
    private static final int LAP = JointSolids.LAP;
    private static final int HOUSING = JointSolids.HOUSING;
    private static final int FINGERS = JointSolids.FINGERS;
    private static final int TENON = JointSolids.TENON;
    private static final int BRIDLE = JointSolids.BRIDLE;

    /** Along each axis two cubes of 4 are apart, or one ends where the other begins, or they run together. */
    private static final int[] OFFSETS = {-1000, -100, -5, -4, -3, -1, 0, 1, 3, 4, 5, 100, 1000};

    private TermsTest() {
    }

    /** "PARTS 0 .. 7 (as they are told)": a refused one takes no number. */
    private static void partsAsTheyAreTold() {
        JointSolids x = new JointSolids();
        for (int i = 0; i < 8; i++) {
            Check.thrown("a refused part", Check.ARGUMENT, () -> x.part(0, 0, 0, 0, 1, 1));
            Check.same("its number", x.part(10 * i, 0, 0, 1, 2, 3), i);
            Check.same("how many there are", Check.partsOf(x), i + 1);
        }
        Check.thrown("a ninth", Check.STATE, () -> x.part(0, 0, 0, 1, 1, 1));
        for (int i = 0; i < 8; i++) {
            x.cut(i, 0, 0, 0, 2000, 2000, 2000);
        }
        Check.thrown("a ninth, though all are without pieces", Check.STATE, () -> x.part(0, 0, 0, 1, 1, 1));
        Check.same("all are still there", Check.partsOf(x), 8);
    }

    /** "a part is one piece at first, its STOCK box". */
    private static void onePieceAtFirst() {
        Check.same("the least", Check.pieces(Samples.object(5, 6, 7, 1, 1, 1), 0), "5 6 7 6 7 8");
        Check.same("the largest", Check.pieces(Samples.object(-1000, -1000, -1000, 1000, 1000, 1000), 0),
            "-1000 -1000 -1000 0 0 0");
        Check.same("in the place of another", Check.pieces(Samples.object(5, 6, 7, 1, 2, 3, 5, 6, 7, 1, 2, 3), 1),
            "5 6 7 6 8 10");
    }

    /** "boxes .. (.. X above x and so on) that have no place in common": after many cuts too. */
    private static void piecesAreApart() {
        JointSolids x = Samples.object(0, 0, 0, 9, 9, 9);
        int[] boxes = {4, 4, 4, 1, 1, 1, 0, 0, 0, 1, 9, 1, 8, 0, 5, 1, 9, 4, 3, 3, 3, 3, 3, 3};
        for (int i = 0; i < boxes.length; i += 6) {
            x.cut(0, boxes[i], boxes[i + 1], boxes[i + 2], boxes[i + 3], boxes[i + 4], boxes[i + 5]);
        }
        int count = x.pieces(0);
        int[] seen = new int[9 * 9 * 9];
        for (int i = 0; i < count; i++) {
            for (int k = 0; k < 3; k++) {
                Check.same("the end is above the beginning", x.corner(0, i, k) < x.corner(0, i, k + 3), true);
            }
            countCells(x, i, seen);
        }
        for (int cell = 0; cell < seen.length; cell++) {
            Check.same("cell " + cell + " is in one piece at most", seen[cell] <= 1, true);
        }
    }

    private static void countCells(JointSolids x, int piece, int[] seen) {
        int[] n = new int[6];
        for (int k = 0; k < 6; k++) {
            n[k] = x.corner(0, piece, k);
        }
        for (int i = n[0]; i < n[3]; i++) {
            for (int j = n[1]; j < n[4]; j++) {
                for (int k = n[2]; k < n[5]; k++) {
                    seen[81 * i + 9 * j + k]++;
                }
            }
        }
    }

    /**
     * "up to six pieces in this order: left .., right .., below .., above, .. before .., behind it": each of the six
     * is there just if the box leaves room on that side, so all 64 cases of a box from 3 up to 6 in a cube of 9.
     */
    private static void upToSixPieces() {
        String[] left = {"0 0 0 3 9 9", "6 0 0 9 9 9"};
        for (int sides = 0; sides < 64; sides++) {
            int[] from = new int[3];
            int[] to = new int[3];
            for (int axis = 0; axis < 3; axis++) {
                from[axis] = (sides >> 2 * axis & 1) != 0 ? 3 : 0;
                to[axis] = (sides >> 2 * axis + 1 & 1) != 0 ? 6 : 9;
            }
            String due = "";
            due += from[0] == 3 ? " | " + left[0] : "";
            due += to[0] == 6 ? " | " + left[1] : "";
            String between = from[0] + " ";
            due += from[1] == 3 ? " | " + between + "0 0 " + to[0] + " 3 9" : "";
            due += to[1] == 6 ? " | " + between + "6 0 " + to[0] + " 9 9" : "";
            between += from[1] + " ";
            due += from[2] == 3 ? " | " + between + "0 " + to[0] + " " + to[1] + " 3" : "";
            due += to[2] == 6 ? " | " + between + "6 " + to[0] + " " + to[1] + " 9" : "";
            cutOfSides(from, to, 0, due);
            cutOfSides(from, to, 1, due);
            cutOfSides(from, to, 500, due);
        }
    }

    /** The box goes so far beyond the cube on the sides where it leaves no room. */
    private static void cutOfSides(int[] from, int[] to, int beyond, String due) {
        JointSolids x = Samples.object(0, 0, 0, 9, 9, 9);
        int[] n = new int[6];
        for (int axis = 0; axis < 3; axis++) {
            n[axis] = from[axis] == 0 ? -beyond : from[axis];
            n[axis + 3] = (to[axis] == 9 ? 9 + beyond : to[axis]) - n[axis];
        }
        Check.same("something is cut", x.cut(0, n[0], n[1], n[2], n[3], n[4], n[5]), true);
        Check.same("what is left", Check.pieces(x, 0), due.isEmpty() ? "" : due.substring(3));
    }

    /** Calls on a cube of 4 and its 26 neighbours: sides tells of each axis whether it lies before, at or behind. */
    private interface Neighbour {
        void look(String what, int[] sides, int[] places);
    }

    private static void neighbours(int near, Neighbour neighbour) {
        for (int i = 0; i < 27; i++) {
            int[] sides = {i % 3 - 1, i / 3 % 3 - 1, i / 9 - 1};
            int[] places = {sides[0] * near, sides[1] * near, sides[2] * near};
            if (i != 13) {
                neighbour.look("the neighbour " + places[0] + " " + places[1] + " " + places[2], sides, places);
            }
        }
    }

    private static int apart(int[] sides) {
        return Math.abs(sides[0]) + Math.abs(sides[1]) + Math.abs(sides[2]);
    }

    /** How much two cubes of 4 have in common if they run together by 1 on the sides where they are apart. */
    private static int shared(int[] sides) {
        int product = 1;
        for (int side : sides) {
            product *= side == 0 ? 4 : 1;
        }
        return product;
    }

    private static JointSolids cubes(int[] at) {
        return Samples.object(0, 0, 0, 4, 4, 4, at[0], at[1], at[2], 4, 4, 4);
    }

    /** "each piece that has a place in common with it": one that it only touches, by face, edge or corner, has none. */
    private static void cutsThatOnlyTouch() {
        neighbours(4, (what, sides, at) -> Check.leaves(what + ": nothing is cut", () -> Samples.object(0, 0, 0, 4, 4, 4),
            x -> x.cut(0, at[0], at[1], at[2], 4, 4, 4) ? 1 : 0, "0"));
        neighbours(3, (what, sides, at) -> {
            JointSolids x = Samples.object(0, 0, 0, 4, 4, 4);
            Check.same(what + ": something is cut", x.cut(0, at[0], at[1], at[2], 4, 4, 4), true);
            Check.same(what + ": a slice of 1", x.volume(0), 64 - shared(sides));
            Check.same(what + ": as many pieces as sides", x.pieces(0), apart(sides));
        });
    }

    /** "in turn, is replaced (where it stands in their order) ..; other pieces stay." */
    private static void piecesKeepTheirOrder() {
        JointSolids x = Samples.comb(4);
        x.cut(0, 11, 4, 0, 3, 2, 10);
        Check.same("two in the middle of four", Check.pieces(x, 0), "0 0 0 10 10 10 | 11 0 0 12 4 10 | 11 6 0 12 10 10"
            + " | 13 0 0 14 4 10 | 13 6 0 14 10 10 | 15 0 0 16 10 10");
        x.cut(0, 11, 0, 0, 1, 10, 10);
        Check.same("some without rest", Check.pieces(x, 0),
            "0 0 0 10 10 10 | 13 0 0 14 4 10 | 13 6 0 14 10 10 | 15 0 0 16 10 10");
        x.cut(0, 15, 0, 0, 1, 10, 10);
        Check.same("the last without rest", Check.pieces(x, 0), "0 0 0 10 10 10 | 13 0 0 14 4 10 | 13 6 0 14 10 10");
        x.cut(0, 0, 0, 0, 10, 10, 10);
        Check.same("the first without rest", Check.pieces(x, 0), "13 0 0 14 4 10 | 13 6 0 14 10 10");
    }

    /** "If there would be more than 24 pieces, nothing is cut": a box in the comb's cube that adds 0 .. 5 pieces. */
    private static void roomForPieces() {
        int[][] boxes = {{0, 0, 0, 3, 10, 10}, {3, 0, 0, 3, 10, 10}, {0, 0, 0, 3, 3, 3}, {0, 0, 3, 3, 3, 3},
            {0, 3, 3, 3, 3, 3}, {3, 3, 3, 3, 3, 3}};
        for (int more = 0; more < 6; more++) {
            int[] n = boxes[more];
            Check.Use cut = x -> x.cut(0, n[0], n[1], n[2], n[3], n[4], n[5]) ? 1 : 0;
            JointSolids x = Samples.comb(24 - more);
            Check.same(more + " pieces more have room", Check.told(() -> cut.on(x)), "1");
            Check.same("that makes 24", x.pieces(0), 24);
            long all = 1000 + 100 * (24 - more - 1);
            Check.same("less the box", x.volume(0), all - n[3] * n[4] * n[5]);
            for (int pieces = 25 - more; pieces <= 24; pieces++) {
                int of = pieces;
                Check.refused(more + " more than " + of, () -> Samples.comb(of), cut, Check.STATE);
            }
        }
        Check.leaves("a box beside a full part", () -> Samples.comb(24), x -> x.cut(0, 10, 0, 0, 1, 10, 10) ? 1 : 0, "0");
    }

    /** "If there would be more than 24 pieces": those that are there when the cut is done. */
    private static void roomIsCountedInTheEnd() {
        JointSolids x = Samples.thinComb();
        Check.same("a full part", x.pieces(0), 24);
        Check.same("two more in front, but 23 less behind", x.cut(0, 5, 4, 0, 51, 2, 10), true);
        Check.same("what is left", Check.pieces(x, 0), "0 0 0 5 10 10 | 5 0 0 10 4 10 | 5 6 0 10 10 10");
        JointSolids y = Samples.thinComb();
        Check.same("two more in front, two less behind", y.cut(0, 5, 4, 0, 9, 2, 10), true);
        Check.same("that makes 24", y.pieces(0), 24);
        Check.refused("two more in front, one less behind", Samples::thinComb, z -> z.cut(0, 5, 4, 0, 7, 2, 10) ? 1 : 0,
            Check.STATE);
        Check.refused("every tooth in two", () -> Samples.comb(24), z -> z.cut(0, 0, 4, 0, 2000, 2, 10) ? 1 : 0,
            Check.STATE);
        JointSolids w = Samples.comb(12);
        Check.same("twelve in two", w.cut(0, 0, 4, 0, 2000, 2, 10), true);
        Check.same("are 24", w.pieces(0), 24);
        Check.refused("thirteen in two", () -> Samples.comb(13), z -> z.cut(0, 0, 4, 0, 2000, 2, 10) ? 1 : 0,
            Check.STATE);
    }

    /** "COMMON ..; none, if they have no place in common": not if the stocks only touch, by face, edge or corner. */
    private static void commonBoxes() {
        for (int kind = 0; kind < 5; kind++) {
            int of = kind;
            neighbours(4, (what, sides, at) -> Check.refused(what + ": no common box", () -> Samples.marked(cubes(at)),
                x -> x.joint(of, 0, 1, 0, 1), Check.STATE));
        }
        neighbours(3, (what, sides, at) -> {
            JointSolids x = cubes(at);
            Check.same(what + ": a common box", x.joint(HOUSING, 0, 1, 0, 1), 0);
            Check.same(what + ": a lost it", x.about(0, 4), shared(sides));
            Check.same(what + ": b lost nothing", x.about(0, 5), 0);
        });
        neighbours(1000, (what, sides, at) -> Check.refused(what + ": far away", () -> Samples.marked(cubes(at)),
            x -> x.joint(HOUSING, 0, 1, 0, 1), Check.STATE));
        JointSolids x = Samples.object(-1000, -1000, -1000, 1000, 1000, 1000, -1000, -1000, -1000, 1000, 1000, 1000);
        Check.same("the largest common box", x.joint(HOUSING, 0, 1, 2, 1), 0);
        Check.same("a lost it all", x.about(0, 4), 1000000000L);
    }

    /** "COMMON of two parts is the box that both STOCKS have in common": whatever was cut out of them. */
    private static void commonIsOfStocks() {
        JointSolids x = Samples.object(0, 0, 0, 9, 1, 1, 0, 0, 0, 9, 1, 1);
        x.cut(0, 0, 0, 0, 9, 1, 1);
        x.cut(1, 0, 0, 0, 9, 1, 1);
        Check.same("of parts without pieces", x.joint(TENON, 0, 1, 0, 1), 0);
        Check.same("a had nothing to lose", x.about(0, 4), 0);
        Check.same("b had nothing to lose", x.about(0, 5), 0);
        JointSolids y = Samples.object(0, 0, 0, 9, 1, 1, 0, 0, 0, 9, 1, 1);
        y.cut(0, 0, 0, 0, 6, 1, 1);
        y.cut(1, 3, 0, 0, 6, 1, 1);
        Check.same("they have nothing in common now", y.overlap(0, 1), 0);
        Check.same("of parts that were cut before", y.joint(LAP, 1, 0, 0, 1), 0);
        Check.same("the first half is that of the stocks: a", Check.pieces(y, 1), "0 0 0 3 1 1");
        Check.same("the first half is that of the stocks: b", Check.pieces(y, 0), "6 0 0 9 1 1");
        Check.same("SIZE is that of the stocks", y.joint(FINGERS, 0, 1, 0, 5), -2);
    }

    /** "JOINTS, 12 at most": a refused one and one that lacks something take no number. */
    private static void twelveJoints() {
        JointSolids x = Samples.pair();
        for (int i = 0; i < 12; i++) {
            Check.thrown("a refused joint", Check.STATE, () -> x.joint(LAP, 0, 2, 0, 1));
            Check.same("one that lacks 1", x.joint(TENON, 0, 1, 2, 1), -2);
            Check.same("its number", x.joint(i % 5, 0, 1, i % 2, 4), i);
            Check.same("how many there are", Check.jointsOf(x), i + 1);
        }
        for (int kind = 0; kind < 5; kind++) {
            int of = kind;
            Check.refused("a thirteenth of kind " + kind, Samples::twelveJoints, y -> y.joint(of, 0, 1, 0, 4), Check.STATE);
            Check.refused("a thirteenth the other way round", Samples::twelveJoints, y -> y.joint(of, 1, 0, 1, 4),
                Check.STATE);
            Check.refused("a thirteenth of a full object", Samples::full, y -> y.joint(of, 6, 7, 0, 100), Check.STATE);
        }
    }

    /** Parts of which a runs from 0 up to 5 + size + 5, b from 5 up to 5 + size, 2 by 2 across, along an axis. */
    private static JointSolids along(int axis, int size) {
        int[] n = {0, 0, 0, 2, 2, 2, 0, 0, 0, 2, 2, 2};
        n[3 + axis] = 10 + size;
        n[6 + axis] = 5;
        n[9 + axis] = size;
        return Samples.object(n);
    }

    private static String spans(JointSolids x, int part, int axis) {
        StringBuilder all = new StringBuilder();
        int count = x.pieces(part);
        for (int i = 0; i < count; i++) {
            all.append(i == 0 ? "" : " ").append(x.corner(part, i, axis)).append('-').append(x.corner(part, i, axis + 3));
        }
        return all.toString();
    }

    /** What is left of a (from 0 on) and b (from 5 on) along each axis, and that both lost what they tell. */
    private static void leaves(int kind, int size, int width, int clearance, String dueA, String dueB) {
        for (int axis = 0; axis < 3; axis++) {
            String what = "kind " + kind + " along " + axis + " of " + size + " by " + width + " clear " + clearance;
            JointSolids x = along(axis, size);
            x.clear(clearance);
            long a = x.volume(0);
            long b = x.volume(1);
            Check.same(what, x.joint(kind, 0, 1, axis, width), 0);
            Check.same(what + ": a", spans(x, 0, axis), dueA);
            Check.same(what + ": b", spans(x, 1, axis), dueB);
            Check.same(what + ": a tells what it lost", x.about(0, 4), a - x.volume(0));
            Check.same(what + ": b tells what it lost", x.about(0, 5), b - x.volume(1));
        }
    }

    /** "LAP (0): b loses the first half (SIZE / 2, cut off), a the rest." */
    private static void lap() {
        leaves(LAP, 2, 1, 0, "0-6 7-12", "6-7");
        leaves(LAP, 3, 1000, 0, "0-6 8-13", "6-8");
        leaves(LAP, 4, 1, 0, "0-7 9-14", "7-9");
        leaves(LAP, 5, 1, 0, "0-7 10-15", "7-10");
        leaves(LAP, 989, 1, 0, "0-499 994-999", "499-994");
        leaves(LAP, 990, 1, 0, "0-500 995-1000", "500-995");
    }

    /** "HOUSING (1): a loses it all." */
    private static void housing() {
        leaves(HOUSING, 1, 1, 0, "0-5 6-11", "5-6");
        leaves(HOUSING, 2, 1000, 0, "0-5 7-12", "5-7");
        leaves(HOUSING, 990, 1, 0, "0-5 995-1000", "5-995");
    }

    /** "FINGERS (2) ..: slices, 8 at most, as wide as f from the least place on (the last one may be less wide)". */
    private static void fingers() {
        leaves(FINGERS, 2, 1, 0, "0-5 6-12", "5-6");
        leaves(FINGERS, 3, 1, 0, "0-5 6-7 8-13", "5-6 7-8");
        leaves(FINGERS, 7, 1, 0, "0-5 6-7 8-9 10-11 12-17", "5-6 7-8 9-10 11-12");
        leaves(FINGERS, 8, 1, 0, "0-5 6-7 8-9 10-11 12-18", "5-6 7-8 9-10 11-12");
        leaves(FINGERS, 10, 5, 0, "0-5 10-20", "5-10");
        leaves(FINGERS, 11, 5, 0, "0-5 10-15 16-21", "5-10 15-16");
        leaves(FINGERS, 14, 5, 0, "0-5 10-15 19-24", "5-10 15-19");
        leaves(FINGERS, 15, 5, 0, "0-5 10-15 20-25", "5-10 15-20");
        leaves(FINGERS, 16, 5, 0, "0-5 10-15 20-26", "5-10 15-20");
        leaves(FINGERS, 36, 5, 0, "0-5 10-15 20-25 30-35 40-46", "5-10 15-20 25-30 35-40");
        leaves(FINGERS, 40, 5, 0, "0-5 10-15 20-25 30-35 40-50", "5-10 15-20 25-30 35-40");
        leaves(FINGERS, 990, 495, 0, "0-5 500-1000", "5-500");
        leaves(FINGERS, 989, 124, 0, "0-5 129-253 377-501 625-749 873-999", "5-129 253-377 501-625 749-873");
        for (int[] wrong : new int[][] {{9, 1}, {10, 1}, {17, 2}, {41, 5}, {990, 123}, {990, 1}}) {
            for (int axis = 0; axis < 3; axis++) {
                int of = axis;
                Check.refused(wrong[0] + " by " + wrong[1] + ": more than 8 slices",
                    () -> Samples.marked(along(of, wrong[0])),
                    x -> x.joint(FINGERS, 0, 1, of, wrong[1]), Check.STATE);
            }
        }
        JointSolids x = Samples.object(0, 0, 0, 1000, 1, 1, 0, 0, 0, 1000, 1, 1);
        Check.same("the largest SIZE in 8 slices", x.joint(FINGERS, 0, 1, 0, 125), 0);
        Check.refused("the largest SIZE in 9 slices", () -> Samples.object(0, 0, 0, 1000, 1, 1, 0, 0, 0, 1000, 1, 1),
            y -> y.joint(FINGERS, 0, 1, 0, 124), Check.STATE);
    }

    /** Slices are asked for FINGERS alone: other kinds of the same SIZE and width are made. */
    private static void otherKindsHaveNoSlices() {
        for (int kind : new int[] {LAP, HOUSING, TENON, BRIDLE}) {
            Check.same("kind " + kind + " of 900 by 1", along(0, 900).joint(kind, 0, 1, 0, 1), 0);
            Check.same("kind " + kind + " of 3 by 1000", along(0, 3).joint(kind, 0, 1, 0, 1000), 0);
        }
    }

    /** "TENON (3): t = SIZE / 3 (cut off): a loses the middle, from t on up to SIZE - t; b .. before and behind it." */
    private static void tenon() {
        leaves(TENON, 3, 1, 0, "0-6 7-13", "6-7");
        leaves(TENON, 4, 1000, 0, "0-6 8-14", "6-8");
        leaves(TENON, 5, 1, 0, "0-6 9-15", "6-9");
        leaves(TENON, 6, 1, 0, "0-7 9-16", "7-9");
        leaves(TENON, 989, 1, 0, "0-334 665-999", "334-665");
        leaves(TENON, 990, 1, 0, "0-335 665-1000", "335-665");
    }

    /** "BRIDLE (4): the other way round: a loses what is before and behind, b the middle." */
    private static void bridle() {
        leaves(BRIDLE, 3, 1, 0, "0-5 6-7 8-13", "5-6 7-8");
        leaves(BRIDLE, 4, 1000, 0, "0-5 6-8 9-14", "5-6 8-9");
        leaves(BRIDLE, 5, 1, 0, "0-5 6-9 10-15", "5-6 9-10");
        leaves(BRIDLE, 6, 1, 0, "0-5 7-9 11-16", "5-7 9-11");
        leaves(BRIDLE, 989, 1, 0, "0-5 334-665 994-999", "5-334 665-994");
        leaves(BRIDLE, 990, 1, 0, "0-5 335-665 995-1000", "5-335 665-995");
    }

    private static void lacks(int kind, int size, int width, int lacking) {
        for (int axis = 0; axis < 3; axis++) {
            int of = axis;
            Check.leaves("kind " + kind + " along " + axis + " of " + size + " by " + width,
                () -> Samples.marked(along(of, size)), x -> x.joint(kind, 0, 1, of, width),
                Integer.toString(-1 - lacking));
        }
    }

    /** "A joint asks for a SIZE of at least ..: else it tells -1 less how much is lacking, and cuts nothing." */
    private static void lackingSizes() {
        lacks(LAP, 1, 1, 1);
        lacks(LAP, 1, 1000, 1);
        lacks(FINGERS, 1, 1, 1);
        lacks(FINGERS, 1, 2, 3);
        lacks(FINGERS, 3, 2, 1);
        lacks(FINGERS, 5, 5, 5);
        lacks(FINGERS, 9, 5, 1);
        lacks(FINGERS, 1, 1000, 1999);
        lacks(FINGERS, 990, 496, 2);
        lacks(FINGERS, 989, 495, 1);
        lacks(FINGERS, 990, 1000, 1010);
        for (int kind : new int[] {TENON, BRIDLE}) {
            lacks(kind, 1, 1, 2);
            lacks(kind, 2, 1, 1);
            lacks(kind, 2, 1000, 1);
        }
        Check.leaves("a SIZE that is short along one axis alone", () -> Samples.object(0, 0, 0, 9, 9, 2, 0, 0, 0, 9, 9, 2),
            x -> x.joint(BRIDLE, 0, 1, 2, 1), "-2");
        Check.same("but not along another", Samples.object(0, 0, 0, 9, 9, 2, 0, 0, 0, 9, 9, 2).joint(BRIDLE, 0, 1, 1, 1), 0);
        Check.leaves("a SIZE that is short, of a full part", () -> combAndBox(24, 4, 4, 4, 2, 2, 2),
            x -> x.joint(TENON, 0, 1, 0, 1), "-2");
    }

    private static JointSolids combAndBox(int pieces, int... box) {
        JointSolids x = Samples.comb(pieces);
        x.part(box[0], box[1], box[2], box[3], box[4], box[5]);
        return x;
    }

    /** "What a part loses is CUT in the order of places": another order would leave other pieces. */
    private static void cutsInOrderOfPlaces() {
        JointSolids x = Samples.object(0, 0, 0, 9, 4, 1, 0, 0, 0, 9, 2, 1);
        x.joint(FINGERS, 0, 1, 0, 3);
        Check.same("a loses 0-3, then 6-9", Check.pieces(x, 0), "3 0 0 6 4 1 | 6 2 0 9 4 1 | 0 2 0 3 4 1");
        JointSolids y = Samples.object(0, 0, 0, 9, 2, 1, 0, 0, 0, 9, 4, 1);
        y.joint(TENON, 0, 1, 0, 1);
        Check.same("b loses 0-3, then 6-9", Check.pieces(y, 1), "3 0 0 6 4 1 | 6 2 0 9 4 1 | 0 2 0 3 4 1");
        JointSolids z = Samples.object(0, 0, 0, 9, 4, 1, 0, 0, 0, 9, 2, 1);
        z.clear(1);
        z.joint(BRIDLE, 0, 1, 0, 1);
        Check.same("a loses 0-4, then 5-9", Check.pieces(z, 0), "4 0 0 5 4 1 | 5 2 0 9 4 1 | 0 2 0 4 4 1");
    }

    /** "If one of these cuts can't be, none is made." */
    private static void noneIfOneCannotBe() {
        for (int kind = 0; kind < 5; kind++) {
            int of = kind;
            Check.refused("no room for kind " + kind + " in a full a",
                () -> Samples.marked(combAndBox(24, 2, 2, 2, 6, 6, 6)), x -> x.joint(of, 0, 1, 0, 3), Check.STATE);
            if (kind != HOUSING) {
                Check.refused("no room for kind " + kind + " in a full b",
                    () -> Samples.marked(combAndBox(24, 2, 2, 2, 6, 6, 6)), x -> x.joint(of, 1, 0, 0, 3), Check.STATE);
            }
        }
        JointSolids full = combAndBox(24, 2, 2, 2, 6, 6, 6);
        Check.same("a housing leaves a full b alone", full.joint(HOUSING, 1, 0, 0, 1), 0);
        Check.same("it has still 24", full.pieces(0), 24);
        for (int slices = 2; slices <= 8; slices++) {
            roomForSlices(slices);
        }
        laterCutsMakeNoRoom();
    }

    private static JointSolids thinCombAndBar(int length) {
        JointSolids x = Samples.thinComb();
        x.part(2, 4, 0, length, 2, 10);
        return x;
    }

    /** The first cut makes more pieces of the comb's cube, those behind it take teeth off: too late for the first. */
    private static void laterCutsMakeNoRoom() {
        Check.refused("27 pieces first, 18 in the end", () -> thinCombAndBar(54), x -> x.joint(FINGERS, 0, 1, 0, 7),
            Check.STATE);
        Check.refused("26 pieces first, 22 in the end", () -> thinCombAndBar(26), x -> x.joint(TENON, 1, 0, 0, 1),
            Check.STATE);
        JointSolids x = thinCombAndBar(54);
        x.cut(0, 50, 0, 0, 6, 10, 10);
        Check.same("three teeth less", x.pieces(0), 21);
        Check.same("24 pieces first have room", x.joint(FINGERS, 0, 1, 0, 7), 0);
        Check.same("what is left in the end", x.pieces(0), 15);
        JointSolids y = thinCombAndBar(26);
        y.cut(0, 52, 0, 0, 4, 10, 10);
        Check.same("two teeth less", y.pieces(0), 22);
        Check.same("24 pieces first have room too", y.joint(TENON, 1, 0, 0, 1), 0);
        Check.same("what is left of b in the end", y.pieces(0), 20);
    }

    /** A comb loses every other slice of its cube, the first one at its end: a piece more for each but the first. */
    private static void roomForSlices(int slices) {
        int more = (slices + 1) / 2 - 1;
        Check.Use fingers = x -> x.joint(FINGERS, 0, 1, 0, 1);
        JointSolids x = combAndBox(24 - more, 0, 0, 0, slices, 10, 10);
        Check.same(slices + " slices have room", Check.told(() -> fingers.on(x)), "0");
        Check.same("that makes 24", x.pieces(0), 24);
        if (more > 0) {
            Check.refused(slices + " slices lack room for the last", () -> combAndBox(25 - more, 0, 0, 0, slices, 10, 10),
                fingers, Check.STATE);
            Check.refused(slices + " slices in a full part", () -> combAndBox(24, 0, 0, 0, slices, 10, 10), fingers,
                Check.STATE);
        }
    }

    /** "A CLEARANCE c ..: what a loses is longer by c at both ends along the axis, but not beyond the COMMON box." */
    private static void clearances() {
        leaves(LAP, 10, 1, 1, "0-9 15-20", "10-15");
        leaves(LAP, 10, 1, 4, "0-6 15-20", "10-15");
        for (int beyond : new int[] {5, 6, 100}) {
            leaves(LAP, 10, 1, beyond, "0-5 15-20", "10-15");
        }
        for (int any : new int[] {1, 10, 100}) {
            leaves(HOUSING, 10, 1, any, "0-5 15-20", "5-15");
            leaves(HOUSING, 1, 1, any, "0-5 6-11", "5-6");
        }
        leaves(FINGERS, 10, 5, 1, "0-5 11-20", "5-10");
        leaves(FINGERS, 10, 5, 4, "0-5 14-20", "5-10");
        leaves(FINGERS, 10, 5, 5, "0-5 15-20", "5-10");
        leaves(FINGERS, 10, 5, 6, "0-5 15-20", "5-10");
        leaves(FINGERS, 15, 5, 1, "0-5 11-14 20-25", "5-10 15-20");
        leaves(FINGERS, 15, 5, 2, "0-5 12-13 20-25", "5-10 15-20");
        leaves(FINGERS, 15, 5, 3, "0-5 20-25", "5-10 15-20");
        leaves(FINGERS, 15, 5, 100, "0-5 20-25", "5-10 15-20");
        leaves(FINGERS, 20, 5, 1, "0-5 11-14 21-30", "5-10 15-20");
        leaves(TENON, 10, 1, 1, "0-7 13-20", "8-12");
        leaves(TENON, 10, 1, 2, "0-6 14-20", "8-12");
        for (int beyond : new int[] {3, 4, 100}) {
            leaves(TENON, 10, 1, beyond, "0-5 15-20", "8-12");
        }
        leaves(BRIDLE, 10, 1, 1, "0-5 9-11 15-20", "5-8 12-15");
        for (int beyond : new int[] {2, 3, 4, 100}) {
            leaves(BRIDLE, 10, 1, beyond, "0-5 15-20", "5-8 12-15");
        }
        leaves(LAP, 400, 1, 99, "0-106 405-410", "205-405");
        leaves(LAP, 400, 1, 100, "0-105 405-410", "205-405");
        clearanceAcross();
    }

    /** The clearance goes along the axis alone, and it does not count for what is lacking, nor for slices. */
    private static void clearanceAcross() {
        JointSolids x = Samples.object(0, 0, 0, 20, 20, 20, 5, 5, 5, 10, 10, 10);
        x.clear(100);
        x.joint(HOUSING, 0, 1, 1, 1);
        Check.same("just the common box", x.about(0, 4), 1000);
        JointSolids y = along(0, 2);
        y.clear(100);
        Check.same("what is lacking", y.joint(TENON, 0, 1, 0, 1), -2);
        JointSolids z = along(0, 8);
        z.clear(100);
        Check.same("eight slices", z.joint(FINGERS, 0, 1, 0, 1), 0);
        Check.same("nothing more of b", spans(z, 1, 0), "5-6 7-8 9-10 11-12");
    }

    /** "VOLUME of a part is the sum of its pieces'." */
    private static void volumes() {
        JointSolids x = Samples.object(-1000, -1000, -1000, 1000, 1000, 1000);
        for (int i = 0; i < 4; i++) {
            x.cut(0, -999 + 10 * i, -999, -999, 1, 1, 1);
            Check.same("a unit less", x.volume(0), 1000000000L - i - 1);
        }
        Check.same("of so many pieces", x.pieces(0), 21);
    }

    private interface Placed {
        void look(String what, JointSolids x, int[] at);
    }

    private static void allOffsets(Placed placed) {
        for (int i : OFFSETS) {
            for (int j : OFFSETS) {
                for (int k : OFFSETS) {
                    int[] at = {i, j, k};
                    placed.look("a cube at " + at[0] + " " + at[1] + " " + at[2], cubes(at), at);
                }
            }
        }
    }

    private static long together(int offset) {
        return Math.max(0, 4 - Math.abs(offset));
    }

    /** "OVERLAP of two parts: the volume of all places that both have." */
    private static void overlaps() {
        allOffsets((what, x, at) -> {
            long due = together(at[0]) * together(at[1]) * together(at[2]);
            Check.same(what + ": overlap", x.overlap(0, 1), due);
            Check.same(what + ": overlap the other way round", x.overlap(1, 0), due);
            Check.same(what + ": the first pair", x.first(), due > 0 ? 1 : -1);
        });
        JointSolids x = Samples.comb(24);
        x.part(0, 0, 0, 56, 10, 10);
        Check.same("24 pieces in one", x.overlap(0, 1), 3300);
        x.cut(1, 0, 0, 0, 55, 10, 10);
        Check.same("the last of them", x.overlap(0, 1), 100);
        x.cut(1, 55, 0, 0, 1, 10, 10);
        Check.same("with a part without pieces", x.overlap(0, 1), 0);
        Check.same("and the other way round", x.overlap(1, 0), 0);
    }

    /** "TOUCH: the area of faces of a's pieces that lie on faces of b's pieces from the other side." */
    private static void touches() {
        allOffsets((what, x, at) -> {
            long due = 0;
            for (int axis = 0; axis < 3; axis++) {
                long face = together(at[(axis + 1) % 3]) * together(at[(axis + 2) % 3]);
                due += Math.abs(at[axis]) == 4 ? face : 0;
            }
            Check.same(what + ": touch", x.touch(0, 1), due);
            Check.same(what + ": touch the other way round", x.touch(1, 0), due);
        });
        Check.same("one on the other, sides alike", cubes(new int[3]).touch(0, 1), 0);
        JointSolids x = Samples.comb(24);
        x.part(0, 10, 0, 56, 1, 10);
        Check.same("24 pieces on one", x.touch(0, 1), 100 + 23 * 10);
        Check.same("one on 24", x.touch(1, 0), 100 + 23 * 10);
        x.cut(1, 0, 10, 0, 56, 1, 10);
        Check.same("with a part without pieces", x.touch(0, 1), 0);
        JointSolids y = Samples.object(-1000, -1000, -1000, 1000, 1000, 1000, 0, -1000, -1000, 1000, 1000, 1000);
        Check.same("the largest face", y.touch(0, 1), 1000000);
    }

    /** "STRENGTH of a joint: TOUCH of both its parts now times its kind's ROW (0 at first), by 100 (cut off)." */
    private static void strengths() {
        int[] rows = {0, 1, 99, 100, 101, 199, 200, 9999, 10000};
        int[] ofOne = {0, 0, 0, 1, 1, 1, 2, 99, 100};
        int[] ofThree = {0, 0, 2, 3, 3, 5, 6, 299, 300};
        JointSolids x = Samples.object(0, 0, 0, 2, 1, 1, 0, 0, 0, 2, 1, 1, 10, 0, 0, 2, 3, 1, 10, 0, 0, 2, 3, 1);
        x.joint(LAP, 0, 1, 0, 1);
        x.joint(LAP, 2, 3, 0, 1);
        Check.same("a face of 1 without a row", x.strength(0), 0);
        for (int i = 0; i < rows.length; i++) {
            x.row(LAP, rows[i]);
            Check.same("a face of 1 by the row " + rows[i], x.strength(0), ofOne[i]);
            Check.same("a face of 3 by the row " + rows[i], x.strength(1), ofThree[i]);
        }
        x.cut(1, 0, 0, 0, 2, 1, 1);
        Check.same("nothing touches now", x.strength(0), 0);
        Check.same("the other joint stays", x.strength(1), 300);
        JointSolids y = Samples.object(0, 0, 0, 1000, 1000, 1000, 0, 0, 0, 1000, 1000, 1000);
        y.joint(FINGERS, 0, 1, 1, 125);
        y.row(FINGERS, 10000);
        Check.same("seven largest faces by the highest row", y.strength(0), 700000000L);
        y.row(FINGERS, 9999);
        Check.same("by the next row", y.strength(0), 699930000L);
    }

    /** "A place is of a part if it is inside a piece or on its sides." */
    private static void placesOnSides() {
        int[][] boxes = {{-1000, -1000, -1000, 1, 1, 1}, {1000, 1000, 1000, 1000, 1000, 1000}, {0, 0, 0, 4, 5, 6}};
        for (int[] n : boxes) {
            JointSolids x = Samples.object(n);
            for (int axis = 0; axis < 3; axis++) {
                int from = n[axis];
                int to = n[axis] + n[axis + 3];
                for (int v : new int[] {from, from + 1, to - 1, to}) {
                    hasAlong(x, n, axis, v, true);
                }
                for (int v : new int[] {from - 1, to + 1, Calls.LOW, Calls.HIGH}) {
                    hasAlong(x, n, axis, v, false);
                }
            }
        }
        JointSolids hole = Samples.object(0, 0, 0, 9, 9, 9);
        hole.cut(0, 3, 3, 3, 2, 2, 2);
        for (int i = 0; i < 27; i++) {
            boolean inside = i == 13;
            Check.same("a hole of 2, place " + i, hole.has(0, 3 + i % 3, 3 + i / 3 % 3, 3 + i / 9), !inside);
        }
        JointSolids comb = Samples.comb(24);
        Check.same("between two teeth, on their sides", comb.has(0, 54, 5, 5), true);
        Check.same("the last side of the last tooth", comb.has(0, 56, 10, 10), true);
        Check.same("beyond it", comb.has(0, 57, 10, 10), false);
        comb.cut(0, 0, 0, 0, 56, 10, 10);
        Check.same("of a part without pieces", comb.has(0, 0, 0, 0), false);
    }

    private static void hasAlong(JointSolids x, int[] box, int axis, int v, boolean due) {
        for (int end = 0; end < 2; end++) {
            int[] n = {box[0] + end * box[3], box[1] + end * box[4], box[2] + end * box[5]};
            n[axis] = v;
            Check.same("the place " + n[0] + " " + n[1] + " " + n[2], x.has(0, n[0], n[1], n[2]), due);
        }
    }

    /** "An object is used for at most 512 calls": the last of them is answered as the first. */
    private static void fiveHundredAndTwelveCalls() {
        JointSolids x = Samples.twelveJoints();
        int before = 3 + 6 + 1 + 12;
        long due = x.strength(11);
        for (int i = before + 2; i <= 512; i++) {
            Check.same("call " + i, x.strength(i % 12), due);
        }
        JointSolids y = new JointSolids();
        y.part(0, 0, 0, 1000, 1, 1);
        for (int i = 2; i <= 511; i++) {
            Check.same("call " + i, y.cut(0, 1000 - (i - 1), 0, 0, 1, 1, 1), true);
        }
        Check.same("call 512", y.volume(0), 490);
    }

    public static void main(String[] args) {
        partsAsTheyAreTold();
        onePieceAtFirst();
        piecesAreApart();
        upToSixPieces();
        cutsThatOnlyTouch();
        piecesKeepTheirOrder();
        roomForPieces();
        roomIsCountedInTheEnd();
        commonBoxes();
        commonIsOfStocks();
        twelveJoints();
        lap();
        housing();
        fingers();
        otherKindsHaveNoSlices();
        tenon();
        bridle();
        lackingSizes();
        cutsInOrderOfPlaces();
        noneIfOneCannotBe();
        clearances();
        volumes();
        overlaps();
        touches();
        strengths();
        placesOnSides();
        fiveHundredAndTwelveCalls();
        Check.end("TermsTest");
    }
}
