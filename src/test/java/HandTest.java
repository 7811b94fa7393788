/** Runs of calls as a joiner would make them, with answers that were reckoned by hand from the document. */
public final class HandTest {
    private static final int LAP = JointSolids.LAP;
    private static final int HOUSING = JointSolids.HOUSING;
    private static final int FINGERS = JointSolids.FINGERS;
    private static final int TENON = JointSolids.TENON;
    private static final int BRIDLE = JointSolids.BRIDLE;

    private HandTest() {
    }

    /** The example that README.md shows. */
    private static void readme() {
        JointSolids solids = new JointSolids();
        int rail = solids.part(0, 0, 0, 100, 20, 10);
        int post = solids.part(80, 0, 0, 20, 100, 10);
        int lap = solids.joint(JointSolids.LAP, rail, post, 2, 1);
        solids.row(JointSolids.LAP, 250);
        Check.same("README: overlap", solids.overlap(rail, post), 0);
        Check.same("README: touch", solids.touch(rail, post), 600);
        Check.same("README: strength", solids.strength(lap), 1500);
        Check.same("README: about", solids.about(lap, 4), 2000);
    }

    private static void joined(String what, JointSolids x, int joint, long lostA, long lostB, long touch) {
        int a = (int) x.about(joint, 1);
        int b = (int) x.about(joint, 2);
        Check.same(what + ": a lost", x.about(joint, 4), lostA);
        Check.same(what + ": b lost", x.about(joint, 5), lostB);
        Check.same(what + ": touch", x.touch(a, b), touch);
        Check.same(what + ": touch, the other way round", x.touch(b, a), touch);
        Check.same(what + ": overlap", x.overlap(a, b), 0);
    }

    /** Two bars that cross, joined again and again by each kind, until nothing is left of what they shared. */
    private static void crossing() {
        JointSolids x = Samples.object(0, 0, 0, 24, 12, 6, 12, -6, 0, 6, 24, 6);
        Check.same("bars: overlap", x.overlap(0, 1), 6 * 12 * 6);
        Check.same("bars: first", x.first(), 1);
        Check.same("bars: LAP", x.joint(LAP, 0, 1, 2, 1), 0);
        Check.same("bars: a after LAP", Check.pieces(x, 0), "0 0 0 12 12 6 | 18 0 0 24 12 6 | 12 0 0 18 12 3");
        Check.same("bars: b after LAP", Check.pieces(x, 1), "12 -6 0 18 0 6 | 12 12 0 18 18 6 | 12 0 3 18 12 6");
        joined("bars: LAP", x, 0, 216, 216, 72 + 36 + 36 + 18 + 18);
        x.row(LAP, 150);
        Check.same("bars: strength of LAP", x.strength(0), 270);

        x.clear(1);
        Check.same("bars: BRIDLE", x.joint(BRIDLE, 1, 0, 0, 1), 1);
        Check.same("bars: a after BRIDLE", Check.pieces(x, 1), "12 -6 0 18 0 6 | 12 12 0 18 18 6");
        Check.same("bars: b after BRIDLE", Check.pieces(x, 0),
            "0 0 0 12 12 6 | 18 0 0 24 12 6 | 12 0 0 14 12 3 | 16 0 0 18 12 3");
        joined("bars: BRIDLE", x, 1, 216, 72, 24);
        x.row(BRIDLE, 999);
        Check.same("bars: strength of BRIDLE", x.strength(1), 239);
        Check.same("bars: strength of LAP, as both are now", x.strength(0), 36);

        Check.same("bars: FINGERS that lack 2", x.joint(FINGERS, 0, 1, 0, 4), -3);
        Check.thrown("bars: FINGERS of 12 slices", Check.STATE, () -> x.joint(FINGERS, 0, 1, 1, 1));
        x.clear(0);
        Check.same("bars: TENON", x.joint(TENON, 0, 1, 1, 1), 2);
        Check.same("bars: a after TENON", Check.pieces(x, 0), "0 0 0 12 12 6 | 18 0 0 24 12 6 | 12 0 0 14 4 3"
            + " | 12 8 0 14 12 3 | 16 0 0 18 4 3 | 16 8 0 18 12 3");
        joined("bars: TENON", x, 2, 48, 0, 24);

        x.clear(100);
        Check.same("bars: FINGERS", x.joint(FINGERS, 0, 1, 1, 4), 3);
        Check.same("bars: a after FINGERS", Check.pieces(x, 0), "0 0 0 12 12 6 | 18 0 0 24 12 6");
        joined("bars: FINGERS", x, 3, 96, 0, 0);
        Check.same("bars: HOUSING", x.joint(HOUSING, 1, 0, 2, 1), 4);
        joined("bars: HOUSING", x, 4, 0, 0, 0);
        for (int joint = 0; joint < 5; joint++) {
            Check.same("bars: no strength is left", x.strength(joint), 0);
            Check.same("bars: kinds stay", x.about(joint, 0), new int[] {LAP, BRIDLE, TENON, FINGERS, HOUSING}[joint]);
            Check.same("bars: axes stay", x.about(joint, 3), new int[] {2, 0, 1, 1, 2}[joint]);
        }
        Check.same("bars: losses stay", x.about(0, 4), 216);
        Check.same("bars: volume of a", x.volume(0), 864 + 432);
        Check.same("bars: volume of b", x.volume(1), 432);
        Check.same("bars: first", x.first(), -1);
    }

    /** Four legs, and four rails whose ends go through them: two along x, and lower down two along y. */
    private static JointSolids frame() {
        return Samples.object(0, 0, 0, 10, 10, 70, 90, 0, 0, 10, 10, 70, 90, 90, 0, 10, 10, 70, 0, 90, 0, 10, 10, 70,
            0, 2, 50, 100, 6, 15, 92, 0, 30, 6, 100, 15, 0, 92, 50, 100, 6, 15, 2, 0, 30, 6, 100, 15);
    }

    private static void tenons(JointSolids x) {
        Check.same("frame: first", x.first(), 4);
        Check.same("frame: a leg and a rail", x.overlap(0, 4), 900);
        Check.same("frame: two rails", x.overlap(4, 5) + x.touch(4, 5), 0);
        Check.same("frame: in the leg before", x.has(0, 5, 5, 57), true);
        x.row(TENON, 250);
        int[] legs = {0, 1, 3, 2, 1, 2, 3, 0};
        int[] rails = {4, 4, 6, 6, 5, 5, 7, 7};
        for (int i = 0; i < 8; i++) {
            Check.same("frame: number", x.joint(TENON, legs[i], rails[i], i < 4 ? 1 : 0, 1), i);
            joined("frame: joint " + i, x, i, 300, 600, 150 + 150 + 20 + 20 + 60);
            Check.same("frame: first after joint " + i, x.first(), new int[] {7, 7, 7, 7, 7, 7, 7, -1}[i]);
        }
        for (int i = 0; i < 8; i++) {
            Check.same("frame: strength " + i, x.strength(i), 1000);
            Check.same("frame: pieces " + i, x.pieces(i), i < 4 ? 13 : 3);
            Check.same("frame: volume " + i, x.volume(i), i < 4 ? 6400 : 7800);
        }
        Check.same("frame: a leg", Check.pieces(x, 0), "0 0 0 4 4 70 | 6 0 0 10 4 70 | 4 0 0 6 4 30 | 4 0 45 6 4 70"
            + " | 0 6 0 4 10 70 | 6 6 0 10 10 70 | 4 6 0 6 10 30 | 4 6 45 6 10 70"
            + " | 0 4 0 4 6 50 | 6 4 0 10 6 50 | 4 4 0 6 6 30 | 4 4 45 6 6 50 | 0 4 65 10 6 70");
        Check.same("frame: a rail", Check.pieces(x, 4), "10 2 50 90 8 65 | 90 4 50 100 6 65 | 0 4 50 10 6 65");
        Check.same("frame: another rail", Check.pieces(x, 7), "4 0 30 6 100 45 | 6 10 30 8 90 45 | 2 10 30 4 90 45");
        Check.same("frame: in the mortise", x.has(0, 5, 5, 57), false);
        Check.same("frame: on its side", x.has(0, 5, 4, 57), true);
        Check.same("frame: in the tenon", x.has(4, 5, 5, 57), true);
    }

    private static void housingOfFrame(JointSolids x) {
        Check.same("frame: HOUSING", x.joint(HOUSING, 4, 0, 0, 1), 8);
        joined("frame: HOUSING", x, 8, 300, 0, 60);
        x.row(HOUSING, 33);
        Check.same("frame: strength of HOUSING", x.strength(8), 19);
        Check.same("frame: strength of the tenon that is gone", x.strength(0), 150);
        Check.same("frame: no tenon any more", x.has(4, 5, 5, 57), false);
        Check.same("frame: the rail's end", x.has(4, 10, 5, 57), true);
    }

    /** The leg has no room for it before its top is cut off. */
    private static void lapOfFrame(JointSolids x) {
        x.clear(5);
        Check.thrown("frame: LAP without room", Check.STATE, () -> x.joint(LAP, 2, 6, 2, 1));
        Check.same("frame: the leg stays", x.pieces(2), 13);
        Check.same("frame: the rail stays", x.volume(6), 7800);
        Check.same("frame: the top of a leg", x.cut(2, 90, 90, 65, 10, 10, 5), true);
        Check.same("frame: the leg without it", x.pieces(2), 12);
        Check.same("frame: what touches then", x.touch(2, 6), 380);
        Check.same("frame: LAP", x.joint(LAP, 2, 6, 2, 1), 9);
        joined("frame: LAP", x, 9, 520, 140, 8);
        x.row(LAP, 1250);
        Check.same("frame: strength of LAP", x.strength(9), 100);
        Check.same("frame: strength of the same tenon", x.strength(3), 20);
        Check.same("frame: the leg in the end", x.volume(2), 5380);
        Check.same("frame: its pieces", x.pieces(2), 18);
    }

    private static void fingersOfFrame(JointSolids x) {
        x.clear(0);
        Check.thrown("frame: FINGERS without room", Check.STATE, () -> x.joint(FINGERS, 1, 5, 1, 3));
        joined("frame: nothing was made", x, 4, 300, 600, 400);
        Check.same("frame: the upper part of a leg", x.cut(1, 90, 0, 45, 10, 10, 25), true);
        Check.same("frame: the leg without it", x.pieces(1), 9);
        Check.same("frame: its volume", x.volume(1), 4200);
        Check.same("frame: the upper rail is loose", x.strength(1), 0);
        Check.same("frame: the lower is not", x.touch(1, 5), 380);
        Check.same("frame: FINGERS", x.joint(FINGERS, 1, 5, 1, 3), 10);
        joined("frame: FINGERS", x, 10, 360, 120, 72);
        x.row(FINGERS, 10000);
        Check.same("frame: strength of FINGERS", x.strength(10), 7200);
        Check.same("frame: strength of the same tenon", x.strength(4), 180);
        Check.same("frame: the leg in the end", x.pieces(1), 17);
    }

    private static void bridleOfFrame(JointSolids x) {
        Check.thrown("frame: two rails have no common box", Check.STATE, () -> x.joint(BRIDLE, 4, 7, 1, 1));
        Check.same("frame: BRIDLE of what is gone", x.joint(BRIDLE, 4, 0, 1, 1), 11);
        joined("frame: BRIDLE", x, 11, 0, 0, 60);
        Check.same("frame: without a row", x.strength(11), 0);
        Check.thrown("frame: a thirteenth joint", Check.STATE, () -> x.joint(HOUSING, 3, 6, 0, 1));
        Check.thrown("frame: a ninth part", Check.STATE, () -> x.part(0, 0, 0, 1, 1, 1));
        Check.same("frame: the others stay", x.strength(2) + x.strength(5) + x.strength(6) + x.strength(7), 4000);
        Check.same("frame: first", x.first(), -1);
    }

    public static void main(String[] args) {
        readme();
        crossing();
        JointSolids x = frame();
        tenons(x);
        housingOfFrame(x);
        lapOfFrame(x);
        fingersOfFrame(x);
        bridleOfFrame(x);
        Check.end("HandTest");
    }
}
