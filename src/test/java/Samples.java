/** Objects that the boundary tests begin with. */
final class Samples {
    private Samples() {
    }

    /** Parts from boxes told as six numbers each: x, y, z, w, h, d. */
    static JointSolids object(int... boxes) {
        JointSolids x = new JointSolids();
        for (int i = 0; i + 5 < boxes.length; i += 6) {
            x.part(boxes[i], boxes[i + 1], boxes[i + 2], boxes[i + 3], boxes[i + 4], boxes[i + 5]);
        }
        return x;
    }

    /** One part: a cube of 10 in front, and as many teeth of 1 behind it as make the number of pieces told. */
    static JointSolids comb(int pieces) {
        JointSolids x = object(0, 0, 0, 10 + 2 * (pieces - 1), 10, 10);
        cutTeeth(x, pieces);
        return x;
    }

    private static void cutTeeth(JointSolids x, int pieces) {
        for (int i = 0; i + 1 < pieces; i++) {
            x.cut(0, 10 + 2 * i, 0, 0, 1, 10, 10);
        }
    }

    /** A comb of 24 whose teeth are thinner than its cube: from 4 up to 6 along y. */
    static JointSolids thinComb() {
        JointSolids x = object(0, 0, 0, 56, 10, 10);
        x.cut(0, 10, 0, 0, 46, 4, 10);
        x.cut(0, 10, 6, 0, 46, 4, 10);
        cutTeeth(x, 24);
        return x;
    }

    /** The object with rows and a clearance, so that a call that changes one of these shows in later joints. */
    static JointSolids marked(JointSolids x) {
        for (int kind = 0; kind < 5; kind++) {
            x.row(kind, 100 * kind + 130);
        }
        x.clear(1);
        return x;
    }

    /** Two parts of one box, and a third far away from them: 12 by 9 by 2. */
    static JointSolids pair() {
        return marked(object(0, 0, 0, 12, 9, 2, 0, 0, 0, 12, 9, 2, 100, 100, 100, 1, 1, 1));
    }

    /** Three parts with two joints. */
    static JointSolids joined() {
        JointSolids x = object(0, 0, 0, 12, 9, 2, 6, 0, 0, 12, 9, 2, 4, 4, 0, 8, 8, 8);
        x.joint(JointSolids.LAP, 0, 1, 0, 1);
        x.joint(JointSolids.HOUSING, 1, 2, 1, 1);
        return marked(x);
    }

    /** Eight parts; the last two are those that Check.later would have added. */
    static JointSolids eightParts() {
        return marked(object(0, 0, 0, 12, 9, 2, 0, 0, 0, 12, 9, 2, 100, 100, 100, 1, 1, 1, 4, 4, 1, 9, 9, 9,
            0, 50, 0, 16, 4, 4, 0, 50, 0, 16, 4, 4, 900, 900, 900, 500, 6, 6, 900, 902, 902, 500, 2, 2));
    }

    /** Two parts of one box, and a third far away, with twelve joints. */
    static JointSolids twelveJoints() {
        JointSolids x = pair();
        x.clear(0);
        for (int i = 0; i < 12; i++) {
            x.joint(JointSolids.TENON, 0, 1, 0, 1);
        }
        return x;
    }

    /** All that can be full: 8 parts, the first of 24 pieces, 12 joints, the first of 8 slices. */
    static JointSolids full() {
        JointSolids x = comb(24);
        for (int box : new int[] {100, 100, 200, 200, 300}) {
            x.part(box, 0, 0, 16, 4, 4);
        }
        x.part(900, 900, 900, 500, 6, 6);
        x.part(900, 902, 902, 500, 2, 2);
        x.joint(JointSolids.FINGERS, 1, 2, 0, 2);
        x.joint(JointSolids.TENON, 3, 4, 0, 1);
        for (int i = 2; i < 12; i++) {
            x.joint(JointSolids.HOUSING, 6, 7, i % 3, 1);
        }
        return marked(x);
    }
}
