/**
 * Each promise of the document: ordinary inputs, the edges that it names, and wrong inputs. That what is refused
 * changes nothing is the matter of BoundsTest, TermsTest and RefusalsTest.
 */
public final class PromisesTest {
    private static final int LOW = Integer.MIN_VALUE;
    private static final int HIGH = Integer.MAX_VALUE;

    private PromisesTest() {
    }

    private static JointSolids object(int... boxes) {
        return Samples.object(boxes);
    }

    /** A part of 24 pieces: a bar in front, then 23 slices of a thinner bar behind it. */
    private static JointSolids full() {
        JointSolids x = object(0, 0, 0, 100, 10, 10);
        x.cut(0, 10, 0, 0, 90, 2, 10);
        x.cut(0, 10, 8, 0, 90, 2, 10);
        x.cut(0, 10, 2, 0, 90, 6, 2);
        x.cut(0, 10, 2, 8, 90, 6, 2);
        for (int i = 0; i < 22; i++) {
            x.cut(0, 12 + 4 * i, 0, 0, 1, 10, 10);
        }
        return x;
    }

    private static void promise1() {
        JointSolids x = new JointSolids();
        Check.thrown("1: no part", Check.INDEX, () -> x.pieces(0));
        Check.thrown("1: no joint", Check.INDEX, () -> x.about(0, 0));
        Check.thrown("1: no joint's strength", Check.INDEX, () -> x.strength(0));
        Check.same("1: first", x.first(), JointSolids.NONE);
        JointSolids y = object(0, 0, 0, 10, 4, 4, 0, 0, 0, 10, 4, 4);
        Check.same("1: joint", y.joint(JointSolids.LAP, 0, 1, 0, 1), 0);
        Check.same("1: no clearance: a", y.about(0, 4), 80);
        Check.same("1: no clearance: b", y.about(0, 5), 80);
        Check.same("1: touch", y.touch(0, 1), 16);
        Check.same("1: rows are 0", y.strength(0), 0);
        Check.thrown("1: objects are apart", Check.INDEX, () -> x.pieces(0));
    }

    private static void promise2() {
        JointSolids x = new JointSolids();
        Check.same("2: number", x.part(-1000, 1000, -1000, 1000, 1, 1000), 0);
        Check.same("2: box", Check.pieces(x, 0), "-1000 1000 -1000 0 1001 0");
        Check.same("2: number", x.part(1000, -1000, 1000, 1, 1000, 1), 1);
        Check.same("2: box", Check.pieces(x, 1), "1000 -1000 1000 1001 0 1001");
        for (int i = 0; i < 6; i++) {
            int[] wrong = i < 3 ? new int[] {-1001, 1001, LOW, HIGH} : new int[] {0, -1, 1001, LOW, HIGH};
            for (int v : wrong) {
                int[] n = {0, 0, 0, 1, 1, 1};
                n[i] = v;
                Check.thrown("2: " + i + " is " + v, Check.ARGUMENT, () -> x.part(n[0], n[1], n[2], n[3], n[4], n[5]));
            }
        }
        for (int i = 2; i < 8; i++) {
            Check.same("2: number", x.part(i, i, i, 1, 2, 3), i);
        }
        Check.thrown("2: a ninth", Check.STATE, () -> x.part(0, 0, 0, 1, 1, 1));
        Check.thrown("2: a ninth and a wrong size", Check.ARGUMENT, () -> x.part(0, 0, 0, 1, 1, 0));
    }

    private static void promise3() {
        JointSolids x = object(0, 0, 0, 10, 10, 10);
        Check.same("3: cut inside", x.cut(0, 2, 3, 4, 1, 2, 3), true);
        Check.same("3: six pieces in their order", Check.pieces(x, 0), "0 0 0 2 10 10 | 3 0 0 10 10 10 | 2 0 0 3 3 10"
            + " | 2 5 0 3 10 10 | 2 3 0 3 5 4 | 2 3 7 3 5 10");
        Check.same("3: the same again", x.cut(0, 2, 3, 4, 1, 2, 3), false);
        Check.same("3: only touching", x.cut(0, 10, 0, 0, 5, 10, 10), false);
        Check.same("3: far away", x.cut(0, 2000, -2000, 2000, 2000, 1, 2000), false);
        Check.same("3: through several", x.cut(0, 1, 1, 0, 3, 1, 10), true);
        Check.same("3: each stands where it stood", Check.pieces(x, 0), "0 0 0 1 10 10 | 1 0 0 2 1 10 | 1 2 0 2 10 10"
            + " | 4 0 0 10 10 10 | 3 0 0 4 1 10 | 3 2 0 4 10 10 | 2 0 0 3 1 10 | 2 2 0 3 3 10"
            + " | 2 5 0 3 10 10 | 2 3 0 3 5 4 | 2 3 7 3 5 10");
        Check.same("3: over a corner", x.cut(0, 9, 9, 9, 2000, 2000, 2000), true);
        Check.same("3: the piece at it", x.corner(0, 3, 3), 9);
        Check.same("3: all of it", x.cut(0, -1000, -1000, -1000, 2000, 2000, 2000), true);
        Check.same("3: nothing left", x.pieces(0), 0);
        Check.same("3: nothing to cut", x.cut(0, 0, 0, 0, 10, 10, 10), false);
        wrongCuts();
        roomForCuts();
    }

    private static void wrongCuts() {
        JointSolids x = object(0, 0, 0, 10, 10, 10);
        for (int part : new int[] {-1, 1, 8, LOW, HIGH}) {
            Check.thrown("3: part " + part, Check.INDEX, () -> x.cut(part, 0, 0, 0, 1, 1, 1));
            Check.thrown("3: part " + part + " and size 0", Check.INDEX, () -> x.cut(part, 0, 0, 0, 0, 1, 1));
        }
        for (int i = 0; i < 6; i++) {
            int[] wrong = i < 3 ? new int[] {-2001, 2001, LOW, HIGH} : new int[] {0, -1, 2001, LOW, HIGH};
            for (int v : wrong) {
                int[] n = {1, 1, 1, 1, 1, 1};
                n[i] = v;
                Check.thrown("3: " + i + " is " + v, Check.ARGUMENT, () -> x.cut(0, n[0], n[1], n[2], n[3], n[4], n[5]));
            }
        }
        for (int i = 0; i < 6; i++) {
            int[] n = {-2000, -2000, -2000, 1, 1, 1};
            n[i] = 2000;
            Check.same("3: the edge of " + i, x.cut(0, n[0], n[1], n[2], n[3], n[4], n[5]), false);
        }
    }

    private static void roomForCuts() {
        JointSolids x = full();
        Check.same("3: 24 pieces have room", x.pieces(0), 24);
        Check.thrown("3: 25 have none", Check.STATE, () -> x.cut(0, 4, 0, 0, 1, 10, 10));
        Check.thrown("3: 28 have none", Check.STATE, () -> x.cut(0, 5, 5, 5, 1, 1, 1));
        Check.thrown("3: a wrong size before no room", Check.ARGUMENT, () -> x.cut(0, 4, 0, 0, 0, 10, 10));
        Check.same("3: nothing is cut, nothing more is needed", x.cut(0, 99, 0, 0, 1, 1, 1), false);
        Check.same("3: none more, but smaller", x.cut(0, 0, 0, 0, 1, 10, 10), true);
        Check.same("3: still 24", x.pieces(0), 24);
        Check.same("3: only what is left in the end counts", x.cut(0, 5, 2, 2, 95, 6, 6), true);
        Check.same("3: what is left", Check.pieces(x, 0), "1 0 0 5 10 10 | 5 0 0 10 2 10 | 5 8 0 10 10 10"
            + " | 5 2 0 10 8 2 | 5 2 8 10 8 10");
    }

    private static void promise4() {
        JointSolids x = object(0, 0, 0, 300, 1, 1, 0, 0, 0, 300, 1, 1, 0, 5, 0, 300, 1, 1, 0, 5, 0, 300, 1, 1,
            0, 9, 0, 300, 1, 1, 0, 9, 0, 300, 1, 1);
        x.joint(JointSolids.LAP, 0, 1, 0, 1);
        x.clear(100);
        Check.same("4: joints before it stay", Check.pieces(x, 0), "0 0 0 150 1 1");
        for (int c : new int[] {-1, 101, LOW, HIGH}) {
            Check.thrown("4: " + c, Check.ARGUMENT, () -> x.clear(c));
        }
        x.joint(JointSolids.LAP, 2, 3, 0, 1);
        Check.same("4: a loses more", Check.pieces(x, 2), "0 5 0 50 6 1");
        Check.same("4: b does not", Check.pieces(x, 3), "150 5 0 300 6 1");
        x.clear(0);
        x.joint(JointSolids.LAP, 4, 5, 0, 1);
        Check.same("4: 0 again", Check.pieces(x, 4), "0 9 0 150 10 1");
    }

    /** A joint of two parts that share a box from 10 on, 2 by 2 across; b begins 5 earlier and ends with it. */
    private static JointSolids jointed(int kind, int axis, int size, int width, int clearance) {
        int[] n = {10, 10, 10, 2, 2, 2, 10, 10, 10, 2, 2, 2};
        n[3 + axis] = size;
        n[6 + axis] = 5;
        n[9 + axis] = size + 5;
        JointSolids x = object(n);
        x.clear(clearance);
        Check.same("5: kind " + kind + " of " + size, x.joint(kind, 0, 1, axis, width), 0);
        return x;
    }

    private static void along(String what, JointSolids x, int part, int axis, String due) {
        StringBuilder all = new StringBuilder();
        for (int i = 0; i < x.pieces(part); i++) {
            all.append(i == 0 ? "" : " ").append(x.corner(part, i, axis)).append('-').append(x.corner(part, i, axis + 3));
        }
        Check.same(what, all.toString(), due);
    }

    /** What is left of a (from 10 on) and of b (from 5 on) along each of the axes. */
    private static void shared(int kind, int size, int width, int clearance, String dueA, String dueB) {
        for (int axis = 0; axis < 3; axis++) {
            String what = "5: kind " + kind + " along " + axis + " of " + size + " by " + width + " clear " + clearance;
            JointSolids x = jointed(kind, axis, size, width, clearance);
            along(what + ": a", x, 0, axis, dueA);
            along(what + ": b", x, 1, axis, dueB);
        }
    }

    private static void promise5() {
        shared(JointSolids.LAP, 2, 1, 0, "10-11", "5-10 11-12");
        shared(JointSolids.LAP, 7, 1, 0, "10-13", "5-10 13-17");
        shared(JointSolids.LAP, 7, 1, 2, "10-11", "5-10 13-17");
        shared(JointSolids.LAP, 7, 1, 3, "", "5-10 13-17");
        shared(JointSolids.HOUSING, 1, 1, 0, "", "5-11");
        shared(JointSolids.HOUSING, 4, 1000, 100, "", "5-14");
        shared(JointSolids.FINGERS, 2, 1, 0, "11-12", "5-11");
        shared(JointSolids.FINGERS, 8, 1, 0, "11-12 13-14 15-16 17-18", "5-11 12-13 14-15 16-17");
        shared(JointSolids.FINGERS, 7, 3, 0, "13-16", "5-13 16-17");
        shared(JointSolids.FINGERS, 12, 3, 0, "13-16 19-22", "5-13 16-19");
        shared(JointSolids.FINGERS, 12, 3, 1, "14-15 20-22", "5-13 16-19");
        shared(JointSolids.FINGERS, 12, 3, 2, "21-22", "5-13 16-19");
        shared(JointSolids.TENON, 3, 1, 0, "10-11 12-13", "5-10 11-12");
        shared(JointSolids.TENON, 5, 1, 0, "10-11 14-15", "5-10 11-14");
        shared(JointSolids.TENON, 8, 1, 1, "10-11 17-18", "5-10 12-16");
        shared(JointSolids.TENON, 8, 1, 2, "", "5-10 12-16");
        shared(JointSolids.BRIDLE, 3, 1, 0, "11-12", "5-11 12-13");
        shared(JointSolids.BRIDLE, 5, 1, 0, "11-14", "5-11 14-15");
        shared(JointSolids.BRIDLE, 8, 1, 1, "13-15", "5-12 16-18");
        shared(JointSolids.BRIDLE, 8, 1, 2, "", "5-12 16-18");
        lackingSizes();
        stocksCount();
        wrongJoints();
        roomForJoints();
    }

    private static void lacks(int kind, int size, int width, int due) {
        JointSolids x = object(0, 0, 0, 9, 9, size, 0, 0, 0, 9, 9, size);
        String before = Check.state(x);
        Check.same("5: lacking of kind " + kind + ", " + size + " by " + width, x.joint(kind, 0, 1, 2, width), due);
        Check.same("5: nothing is cut", Check.state(x), before);
    }

    private static void lackingSizes() {
        lacks(JointSolids.LAP, 1, 1000, -2);
        lacks(JointSolids.FINGERS, 1, 1, -2);
        lacks(JointSolids.FINGERS, 19, 10, -2);
        lacks(JointSolids.FINGERS, 1, 1000, -2000);
        lacks(JointSolids.TENON, 1, 1, -3);
        lacks(JointSolids.TENON, 2, 1, -2);
        lacks(JointSolids.BRIDLE, 1, 1, -3);
        lacks(JointSolids.BRIDLE, 2, 1, -2);
    }

    /** The common box is the stocks', whatever was cut before; a joint may find nothing left to lose. */
    private static void stocksCount() {
        JointSolids x = object(0, 0, 0, 10, 2, 2, 6, 0, 0, 10, 2, 2);
        x.cut(0, 0, 0, 0, 8, 2, 2);
        x.cut(1, 0, 0, 0, 16, 2, 2);
        Check.same("5: of stocks", x.joint(JointSolids.LAP, 0, 1, 0, 1), 0);
        Check.same("5: a loses what was left", x.about(0, 4), 8);
        Check.same("5: b had nothing", x.about(0, 5), 0);
        Check.same("5: the other way round", x.joint(JointSolids.LAP, 1, 0, 0, 1), 1);
        Check.same("5: a is 1", x.about(1, 1), 1);
        JointSolids y = object(0, 0, 0, 4, 4, 4, 4, 0, 0, 4, 4, 4, 4, 4, 4, 1, 1, 1, 3, 3, 3, 1, 1, 1);
        Check.thrown("5: a face in common is no box", Check.STATE, () -> y.joint(JointSolids.HOUSING, 0, 1, 0, 1));
        Check.thrown("5: nor is a corner", Check.STATE, () -> y.joint(JointSolids.HOUSING, 0, 2, 0, 1));
        Check.same("5: one place is", y.joint(JointSolids.HOUSING, 0, 3, 0, 1), 0);
        Check.same("5: a loses it", y.volume(0), 63);
    }

    private static void wrongJoints() {
        JointSolids x = object(0, 0, 0, 9, 9, 1, 0, 0, 0, 9, 9, 1, 50, 0, 0, 1, 1, 1);
        for (int v : new int[] {-1, 5, 8, LOW, HIGH}) {
            Check.thrown("5: kind " + v, Check.INDEX, () -> x.joint(v, 0, 0, 0, 0));
            Check.thrown("5: a " + v, Check.INDEX, () -> x.joint(0, v, 1, 0, 0));
            Check.thrown("5: b " + v, Check.INDEX, () -> x.joint(0, 0, v, 0, 0));
            Check.thrown("5: axis " + v, Check.INDEX, () -> x.joint(0, 0, 0, v, 0));
        }
        Check.thrown("5: part 3", Check.INDEX, () -> x.joint(0, 3, 3, 0, 1));
        Check.thrown("5: axis 3", Check.INDEX, () -> x.joint(0, 0, 1, 3, 1));
        Check.thrown("5: both are one", Check.ARGUMENT, () -> x.joint(0, 2, 2, 0, 1));
        for (int width : new int[] {0, -1, 1001, LOW, HIGH}) {
            for (int kind = 0; kind < 5; kind++) {
                int of = kind;
                Check.thrown("5: width " + width, Check.ARGUMENT, () -> x.joint(of, 0, 1, 0, width));
                Check.thrown("5: width before no box", Check.ARGUMENT, () -> x.joint(of, 0, 2, 0, width));
            }
        }
        Check.thrown("5: no box before lacking", Check.STATE, () -> x.joint(JointSolids.LAP, 0, 2, 2, 1));
        Check.thrown("5: nine slices", Check.STATE, () -> x.joint(JointSolids.FINGERS, 0, 1, 0, 1));
        Check.same("5: five slices", x.joint(JointSolids.FINGERS, 0, 1, 0, 2), 0);
        Check.same("5: a width of no use", x.joint(JointSolids.HOUSING, 0, 1, 0, 1000), 1);
    }

    private static void roomForJoints() {
        JointSolids x = object(0, 0, 0, 9, 9, 1, 0, 0, 0, 9, 9, 1, 50, 0, 0, 1, 1, 1);
        for (int i = 0; i < 12; i++) {
            Check.same("5: number", x.joint(i % 2, 0, 1, 0, 1), i);
        }
        Check.thrown("5: a thirteenth", Check.STATE, () -> x.joint(JointSolids.LAP, 0, 1, 0, 1));
        Check.thrown("5: a thirteenth before lacking", Check.STATE, () -> x.joint(JointSolids.LAP, 0, 1, 2, 1));
        Check.thrown("5: a wrong number before a thirteenth", Check.ARGUMENT, () -> x.joint(0, 0, 0, 0, 1));

        JointSolids y = full();
        y.part(3, 0, 0, 4, 10, 10);
        y.part(3, 4, 4, 4, 2, 2);
        Check.thrown("5: b has no room, a stays", Check.STATE, () -> y.joint(JointSolids.FINGERS, 1, 0, 0, 1));
        Check.thrown("5: a has no room, b stays", Check.STATE, () -> y.joint(JointSolids.LAP, 0, 1, 0, 1));
        Check.thrown("5: no room inside", Check.STATE, () -> y.joint(JointSolids.HOUSING, 0, 2, 0, 1));
        Check.same("5: the next still has the first number", y.joint(JointSolids.HOUSING, 1, 0, 0, 1), 0);
        Check.same("5: a lost it all", y.pieces(1), 0);

        JointSolids z = full();
        z.cut(0, 96, 0, 0, 4, 10, 10);
        z.part(2, 0, 0, 6, 10, 10);
        Check.same("5: 23 pieces", z.pieces(0), 23);
        Check.thrown("5: its second cut has no room", Check.STATE, () -> z.joint(JointSolids.FINGERS, 0, 1, 0, 1));
        Check.same("5: one cut has", z.joint(JointSolids.TENON, 0, 1, 0, 1), 0);
        Check.same("5: 24 pieces", z.pieces(0), 24);
    }

    private static void promise6() {
        JointSolids x = object(0, 0, 0, 10, 10, 10, 0, 0, 0, 1, 1, 1);
        Check.same("6: one at first", x.pieces(0), 1);
        x.cut(0, 4, 4, 4, 2, 2, 2);
        Check.same("6: six", x.pieces(0), 6);
        Check.same("6: the other", x.pieces(1), 1);
        x.cut(1, 0, 0, 0, 1, 1, 1);
        Check.same("6: none left", x.pieces(1), 0);
        for (int v : new int[] {-1, 2, 7, 8, LOW, HIGH}) {
            Check.thrown("6: part " + v, Check.INDEX, () -> x.pieces(v));
        }
    }

    private static void promise7() {
        JointSolids x = object(0, 0, 0, 1, 1, 1, -3, 5, 7, 10, 20, 30);
        int[] due = {-3, 5, 7, 7, 25, 37};
        for (int k = 0; k < 6; k++) {
            Check.same("7: corner " + k, x.corner(1, 0, k), due[k]);
        }
        for (int v : new int[] {-1, 24, 25, 192, LOW, HIGH}) {
            Check.thrown("7: part " + v, Check.INDEX, () -> x.corner(v, 0, 0));
            Check.thrown("7: piece " + v, Check.INDEX, () -> x.corner(1, v, 0));
            Check.thrown("7: k " + v, Check.INDEX, () -> x.corner(1, 0, v));
        }
        Check.thrown("7: part 2", Check.INDEX, () -> x.corner(2, 0, 0));
        Check.thrown("7: piece 1", Check.INDEX, () -> x.corner(1, 1, 0));
        Check.thrown("7: k 6", Check.INDEX, () -> x.corner(1, 0, 6));
        x.cut(1, -3, 5, 7, 1, 1, 1);
        Check.thrown("7: k 6 of a piece that others follow", Check.INDEX, () -> x.corner(1, 0, 6));
        Check.thrown("7: k -1 of a piece behind others", Check.INDEX, () -> x.corner(1, 1, -1));
        x.cut(0, 0, 0, 0, 1, 1, 1);
        Check.thrown("7: a piece that is gone", Check.INDEX, () -> x.corner(0, 0, 0));
    }

    private static void promise8() {
        JointSolids x = object(-1000, -1000, -1000, 1000, 1000, 1000, 3, 3, 3, 2, 3, 4);
        Check.same("8: the largest", x.volume(0), 1000000000L);
        Check.same("8: a small one", x.volume(1), 24);
        x.cut(0, -900, -900, -900, 10, 20, 30);
        Check.same("8: less a box", x.volume(0), 999994000L);
        x.cut(1, 0, 0, 0, 2000, 2000, 2000);
        Check.same("8: nothing", x.volume(1), 0);
        for (int v : new int[] {-1, 2, 8, LOW, HIGH}) {
            Check.thrown("8: part " + v, Check.INDEX, () -> x.volume(v));
        }
    }

    private static void wrongPairs(String what, JointSolids x, int parts, java.util.function.IntBinaryOperator call) {
        for (int v : new int[] {-1, parts, 8, LOW, HIGH}) {
            Check.thrown(what + " a " + v, Check.INDEX, () -> call.applyAsInt(v, 0));
            Check.thrown(what + " b " + v, Check.INDEX, () -> call.applyAsInt(0, v));
            Check.thrown(what + " both " + v, Check.INDEX, () -> call.applyAsInt(v, v));
        }
        Check.thrown(what + " both are one", Check.ARGUMENT, () -> call.applyAsInt(1, 1));
    }

    private static void promise9() {
        JointSolids x = object(0, 0, 0, 10, 10, 10, 8, 7, 6, 10, 10, 10, 10, 0, 0, 5, 5, 5, -1000, -1000, -1000,
            1000, 1000, 1000, -1000, -1000, -1000, 1000, 1000, 1000);
        Check.same("9: a corner", x.overlap(0, 1), 24);
        Check.same("9: the other way round", x.overlap(1, 0), 24);
        Check.same("9: a face only", x.overlap(0, 2), 0);
        Check.same("9: all", x.overlap(3, 4), 1000000000L);
        x.cut(0, 9, 9, 9, 1, 1, 1);
        Check.same("9: less what a lost", x.overlap(0, 1), 23);
        x.cut(1, 8, 7, 6, 2, 3, 1);
        Check.same("9: less what b lost", x.overlap(0, 1), 17);
        x.cut(3, -2000, -2000, -2000, 2000, 2000, 2000);
        Check.same("9: nothing left of a", x.overlap(3, 4), 0);
        Check.same("9: nothing left of b", x.overlap(4, 3), 0);
        wrongPairs("9:", x, 5, (a, b) -> (int) x.overlap(a, b));
    }

    private static void promise10() {
        JointSolids x = object(0, 0, 0, 10, 10, 10, 10, 2, 3, 5, 20, 4, 0, 10, 10, 5, 5, 5, 9, 0, 0, 5, 5, 5,
            0, 0, 10, 10, 10, 1, -10, 0, 0, 10, 10, 10);
        Check.same("10: on the right", x.touch(0, 1), 32);
        Check.same("10: the other way round", x.touch(1, 0), 32);
        Check.same("10: by an edge", x.touch(0, 2), 0);
        Check.same("10: two that overlap", x.touch(0, 3), 0);
        Check.same("10: behind", x.touch(0, 4), 100);
        Check.same("10: on the left", x.touch(0, 5), 100);
        Check.same("10: apart", x.touch(1, 5), 0);
        x.cut(0, 9, 0, 0, 1, 4, 10);
        Check.same("10: less what a lost", x.touch(0, 1), 24);
        JointSolids y = object(0, 0, 0, 10, 10, 10, 5, 0, 0, 10, 10, 10);
        Check.same("10: faces on the same side do not count", object(0, 0, 0, 4, 4, 4, 0, 0, 0, 4, 4, 4).touch(0, 1), 0);
        y.cut(0, 5, 4, 4, 1, 2, 2);
        Check.same("10: faces between a's own pieces count", y.touch(0, 1), 100);
        JointSolids z = object(0, 0, 0, 6, 6, 6, 2, 2, 2, 2, 2, 2);
        z.joint(JointSolids.HOUSING, 0, 1, 0, 1);
        Check.same("10: a hole filled on all six sides", z.touch(0, 1), 24);
        z.cut(1, 2, 2, 2, 2, 2, 2);
        Check.same("10: nothing left of a", z.touch(1, 0), 0);
        Check.same("10: nothing left of b", z.touch(0, 1), 0);
        wrongPairs("10:", x, 6, (a, b) -> (int) x.touch(a, b));
    }

    private static void promise11() {
        JointSolids x = object(0, 0, 0, 10, 10, 10);
        Check.same("11: inside", x.has(0, 5, 5, 5), true);
        Check.same("11: least corner", x.has(0, 0, 0, 0), true);
        Check.same("11: greatest corner", x.has(0, 10, 10, 10), true);
        for (int i = 0; i < 3; i++) {
            for (int v : new int[] {-1, 11, LOW, HIGH}) {
                int[] n = {5, 5, 5};
                n[i] = v;
                Check.same("11: outside " + i + " " + v, x.has(0, n[0], n[1], n[2]), false);
            }
        }
        x.cut(0, 3, 3, 3, 4, 4, 4);
        Check.same("11: in a hole", x.has(0, 5, 5, 5), false);
        Check.same("11: on the hole's side", x.has(0, 3, 5, 5), true);
        Check.same("11: on the hole's other side", x.has(0, 5, 5, 7), true);
        x.cut(0, 0, 0, 0, 10, 10, 10);
        Check.same("11: of a part without pieces", x.has(0, 0, 0, 0), false);
        for (int v : new int[] {-1, 1, 8, LOW, HIGH}) {
            Check.thrown("11: part " + v, Check.INDEX, () -> x.has(v, 0, 0, 0));
        }
    }

    private static void promise12() {
        JointSolids x = object(0, 0, 0, 10, 10, 10, 0, 0, 0, 10, 10, 10);
        for (int kind = 0; kind < 5; kind++) {
            JointSolids y = object(0, 0, 0, 10, 10, 10, 0, 0, 0, 10, 10, 20);
            y.joint(kind, 0, 1, 0, 5);
            y.row(kind, 10000);
            Check.same("12: row of kind " + kind, y.strength(0), y.touch(0, 1) * 100);
            for (int other = 0; other < 5; other++) {
                if (other != kind) {
                    y.row(other, 77);
                }
            }
            Check.same("12: of its kind alone " + kind, y.strength(0), y.touch(0, 1) * 100);
        }
        x.joint(JointSolids.LAP, 0, 1, 0, 1);
        x.row(JointSolids.LAP, 100);
        for (int v : new int[] {-1, 5, LOW, HIGH}) {
            Check.thrown("12: kind " + v, Check.INDEX, () -> x.row(v, 1));
            Check.thrown("12: kind " + v + " and a wrong row", Check.INDEX, () -> x.row(v, -1));
        }
        for (int v : new int[] {-1, 10001, LOW, HIGH}) {
            Check.thrown("12: row " + v, Check.ARGUMENT, () -> x.row(JointSolids.LAP, v));
        }
        Check.same("12: as before", x.strength(0), 100);
        x.row(JointSolids.LAP, 0);
        Check.same("12: 0 again", x.strength(0), 0);
    }

    private static void promise13() {
        JointSolids x = object(0, 0, 0, 10, 3, 3, 0, 0, 0, 10, 3, 3);
        x.joint(JointSolids.LAP, 0, 1, 0, 1);
        Check.same("13: without a row", x.strength(0), 0);
        x.row(JointSolids.LAP, 33);
        Check.same("13: cut off", x.strength(0), 2);
        x.row(JointSolids.LAP, 11);
        Check.same("13: less than one", x.strength(0), 0);
        x.row(JointSolids.LAP, 10000);
        Check.same("13: the highest row", x.strength(0), 900);
        x.cut(1, 0, 0, 0, 10, 3, 1);
        Check.same("13: as both parts are now", x.strength(0), 600);
        x.joint(JointSolids.HOUSING, 1, 0, 1, 1);
        Check.same("13: a later joint counts too", x.strength(0), 0);
        Check.same("13: another kind's row", x.strength(1), 0);
        JointSolids y = object(-1000, -1000, -1000, 1000, 1000, 1000, -1000, -1000, -1000, 1000, 1000, 1000);
        y.joint(JointSolids.FINGERS, 0, 1, 2, 125);
        y.row(JointSolids.FINGERS, 10000);
        Check.same("13: beyond an int", y.strength(0), 700000000L);
        for (int v : new int[] {-1, 2, 12, LOW, HIGH}) {
            Check.thrown("13: joint " + v, Check.INDEX, () -> x.strength(v));
        }
    }

    private static void promise14() {
        JointSolids x = object(0, 0, 0, 1, 1, 1, 0, 0, 0, 10, 9, 8, 2, 2, 2, 10, 9, 8);
        x.joint(JointSolids.HOUSING, 0, 1, 0, 1);
        x.clear(1);
        x.joint(JointSolids.TENON, 2, 1, 1, 1);
        long[] due = {JointSolids.TENON, 2, 1, 1, 8 * 5 * 6, 8 * 4 * 6};
        for (int what = 0; what < 6; what++) {
            Check.same("14: what " + what, x.about(1, what), due[what]);
        }
        x.cut(2, 0, 0, 0, 100, 100, 100);
        Check.same("14: later cuts do not count", x.about(1, 4), 8 * 5 * 6);
        x.clear(0);
        x.joint(JointSolids.TENON, 2, 1, 1, 1);
        Check.same("14: what is gone is not lost again: a", x.about(2, 4), 0);
        Check.same("14: what is gone is not lost again: b", x.about(2, 5), 0);
        Check.same("14: the first", x.about(0, 4), 1);
        for (int v : new int[] {-1, 12, LOW, HIGH}) {
            Check.thrown("14: joint " + v, Check.INDEX, () -> x.about(v, 0));
            Check.thrown("14: what " + v, Check.INDEX, () -> x.about(0, v));
        }
        Check.thrown("14: joint 3", Check.INDEX, () -> x.about(3, 0));
        Check.thrown("14: what 6", Check.INDEX, () -> x.about(0, 6));
        JointSolids y = object(-1000, -1000, -1000, 1000, 1000, 1000, -1000, -1000, -1000, 1000, 1000, 1000);
        y.joint(JointSolids.HOUSING, 0, 1, 0, 1);
        Check.same("14: the largest loss", y.about(0, 4), 1000000000L);
    }

    private static void promise15() {
        JointSolids x = object(0, 0, 0, 2, 2, 2);
        Check.same("15: one part alone", x.first(), -1);
        x.part(2, 0, 0, 2, 2, 2);
        Check.same("15: touching is no overlap", x.first(), -1);
        for (int i = 2; i < 6; i++) {
            x.part(10 * i, 0, 0, 2, 2, 2);
        }
        x.part(500, 0, 0, 2, 2, 2);
        x.part(501, 0, 0, 2, 2, 2);
        Check.same("15: the last pair", x.first(), 8 * 6 + 7);
        x.cut(7, 501, 0, 0, 1, 2, 2);
        Check.same("15: none any more", x.first(), -1);
        JointSolids y = object(0, 0, 0, 9, 1, 1, 20, 0, 0, 9, 1, 1, 20, 0, 0, 9, 1, 1, 8, 0, 0, 9, 1, 1);
        Check.same("15: a before b", y.first(), 3);
        y.cut(0, 0, 0, 0, 9, 1, 1);
        Check.same("15: the next pair", y.first(), 8 + 2);
    }

    public static void main(String[] args) {
        promise1();
        promise2();
        promise3();
        promise4();
        promise5();
        promise6();
        promise7();
        promise8();
        promise9();
        promise10();
        promise11();
        promise12();
        promise13();
        promise14();
        promise15();
        Check.end("PromisesTest");
    }
}
