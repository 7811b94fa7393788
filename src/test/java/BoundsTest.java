/**
 * Promise by promise, each number of each call: the last one that is allowed and the first one that is not, on both
 * sides, and the least and the greatest int; of empty, of ordinary and of full objects.
 */
public final class BoundsTest {
    private BoundsTest() {
    }

    /** The number at a place of the row may be low .. high; what is due is thrown for any other, and changes nothing. */
    private static void bound(String what, Check.Maker maker, Calls call, int[] numbers, int at, int low, int high,
            String due) {
        for (int v : new int[] {low, high}) {
            int[] n = Calls.with(numbers, at, v);
            String told = Check.told(() -> call.on(maker.make(), n));
            Check.same(what + " may be " + v + " but " + told, Check.isAnswer(told), true);
        }
        none(what + " beyond its bounds,", maker, call, numbers, at, due, low - 1, high + 1, Calls.LOW, Calls.HIGH);
    }

    /** What is due is thrown for each of the numbers at a place of the row, and changes nothing. */
    private static void none(String what, Check.Maker maker, Calls call, int[] numbers, int at, String due,
            int... wrong) {
        for (int v : wrong) {
            int[] n = Calls.with(numbers, at, v);
            Check.refused(what + " " + v, maker, x -> call.on(x, n), due);
        }
    }

    private static void due(String what, JointSolids x, Calls call, int[] numbers, long due) {
        Check.same(what, Check.told(() -> call.on(x, numbers)), Long.toString(due));
    }

    /** No part, one part, three parts, eight parts: the parts that there are, and no other. */
    private static void partBounds(String what, Calls call, int[] numbers, int at) {
        none(what + " of none", JointSolids::new, call, numbers, at, Check.INDEX, -1, 0, 7, 8, Calls.LOW, Calls.HIGH);
        bound(what + " of one", () -> Samples.object(0, 0, 0, 9, 9, 9), call, numbers, at, 0, 0, Check.INDEX);
        bound(what + " of three", Samples::joined, call, numbers, at, 0, 2, Check.INDEX);
        bound(what + " of eight", Samples::eightParts, call, numbers, at, 0, 7, Check.INDEX);
        bound(what + " of a full object", Samples::full, call, numbers, at, 0, 7, Check.INDEX);
    }

    /** Of two parts that must not be one: the other one is 1, so the bounds below are told without it. */
    private static void pairBounds(String what, Calls call, int[] numbers, int at) {
        int[] other = Calls.with(numbers, at == 0 ? 1 : 0, 1);
        bound(what + " of three", Samples::joined, call, other, at, 0, 2, Check.INDEX);
        bound(what + " of eight", Samples::eightParts, call, other, at, 0, 7, Check.INDEX);
        bound(what + " of a full object", Samples::full, call, other, at, 0, 7, Check.INDEX);
        none(what + " of none", JointSolids::new, call, other, at, Check.INDEX, -1, 0, 1, 8, Calls.LOW, Calls.HIGH);
        none(what + " of one", () -> Samples.object(0, 0, 0, 9, 9, 9), call, Calls.with(other, 1 - at, 0), at,
            Check.INDEX, -1, 1, 8, Calls.LOW, Calls.HIGH);
    }

    private static void bothAreOne(String what, Calls call) {
        for (int part = 0; part < 8; part++) {
            int[] n = {part, part};
            Check.refused(what + ": both are " + part, Samples::eightParts, x -> call.on(x, n), Check.ARGUMENT);
            Check.refused(what + ": both are " + part + ", of a full object", Samples::full, x -> call.on(x, n),
                Check.ARGUMENT);
        }
        for (int part : new int[] {-1, 3, 8, Calls.LOW, Calls.HIGH}) {
            int[] n = {part, part};
            Check.refused(what + ": both are " + part + ", which is none", Samples::joined, x -> call.on(x, n),
                Check.INDEX);
        }
    }

    /** No joint, two joints, twelve joints: those that there are, and no other. */
    private static void jointBounds(String what, Calls call, int[] numbers) {
        none(what + " of none", JointSolids::new, call, numbers, 0, Check.INDEX, -1, 0, 11, 12, Calls.LOW, Calls.HIGH);
        none(what + " of parts alone", Samples::pair, call, numbers, 0, Check.INDEX, -1, 0, 1, 12);
        bound(what + " of two", Samples::joined, call, numbers, 0, 0, 1, Check.INDEX);
        bound(what + " of twelve", Samples::twelveJoints, call, numbers, 0, 0, 11, Check.INDEX);
        bound(what + " of a full object", Samples::full, call, numbers, 0, 0, 11, Check.INDEX);
    }

    /** "No parts, no joints; the CLEARANCE is 0." */
    private static void promise1() {
        Check.same("1: no part", Check.partsOf(new JointSolids()), 0);
        Check.same("1: no joint", Check.jointsOf(new JointSolids()), 0);
        Check.same("1: no pair", new JointSolids().first(), -1);
        JointSolids x = new JointSolids();
        due("1: the first part is 0", x, Calls.PART, new int[] {0, 0, 0, 9, 2, 2}, 0);
        due("1: the next is 1", x, Calls.PART, new int[] {0, 0, 0, 9, 2, 2}, 1);
        Check.same("1: parts alone make no joint", Check.jointsOf(x), 0);
        due("1: the first joint is 0", x, Calls.JOINT, new int[] {JointSolids.TENON, 0, 1, 0, 1}, 0);
        Check.same("1: a lost 3 of 9 along x, so the clearance is 0", Check.pieces(x, 0), "0 0 0 3 2 2 | 6 0 0 9 2 2");
        Check.same("1: b lost the rest", Check.pieces(x, 1), "3 0 0 6 2 2");
        Check.same("1: another object has still no part", Check.partsOf(new JointSolids()), 0);
    }

    /** "IllegalArgumentException: a place is not -1000 .. 1000, or a size not 1 .. 1000; ..: there are 8." */
    private static void promise2() {
        int[] cube = {0, 0, 0, 1, 1, 1};
        for (int i = 0; i < 6; i++) {
            int low = i < 3 ? -1000 : 1;
            bound("2: " + i + " of the first part", JointSolids::new, Calls.PART, cube, i, low, 1000, Check.ARGUMENT);
            bound("2: " + i + " of one more", Samples::joined, Calls.PART, cube, i, low, 1000, Check.ARGUMENT);
            none("2: " + i + " of a ninth", Samples::full, Calls.PART, cube, i, Check.ARGUMENT, low - 1, 1001,
                Calls.LOW, Calls.HIGH);
        }
        JointSolids least = new JointSolids();
        least.part(-1000, -1000, -1000, 1, 1, 1);
        Check.same("2: the least places", Check.pieces(least, 0), "-1000 -1000 -1000 -999 -999 -999");
        JointSolids most = new JointSolids();
        most.part(1000, 1000, 1000, 1000, 1000, 1000);
        Check.same("2: the greatest places", Check.pieces(most, 0), "1000 1000 1000 2000 2000 2000");
        JointSolids x = new JointSolids();
        for (int i = 0; i < 8; i++) {
            due("2: part " + i + " has room", x, Calls.PART, cube, i);
        }
        for (Check.Maker eight : new Check.Maker[] {Samples::eightParts, Samples::full}) {
            Check.refused("2: a ninth", eight, y -> Calls.PART.on(y, cube), Check.STATE);
            Check.refused("2: the largest ninth", eight, y -> y.part(1000, 1000, 1000, 1000, 1000, 1000), Check.STATE);
            Check.refused("2: the least ninth", eight, y -> y.part(-1000, -1000, -1000, 1, 1, 1), Check.STATE);
        }
    }

    /** "IllegalArgumentException: a place is not -2000 .. 2000, or a size not 1 .. 2000; ..: there is no room." */
    private static void promise3() {
        int[] cube = {0, 1, 1, 1, 1, 1, 1};
        partBounds("3: a part", Calls.CUT, new int[] {0, 500, 500, 500, 1, 1, 1}, 0);
        for (int i = 1; i < 7; i++) {
            int low = i < 4 ? -2000 : 1;
            bound("3: " + i, () -> Samples.object(0, 0, 0, 9, 9, 9), Calls.CUT, cube, i, low, 2000, Check.ARGUMENT);
            none("3: " + i + " of a full part", Samples::full, Calls.CUT, cube, i, Check.ARGUMENT, low - 1, 2001,
                Calls.LOW, Calls.HIGH);
            none("3: " + i + " of no part", JointSolids::new, Calls.CUT, cube, i, Check.INDEX, low - 1, low, 2000,
                2001, Calls.LOW, Calls.HIGH);
        }
        JointSolids least = Samples.object(-1000, -1000, -1000, 2, 2, 2);
        due("3: from the least places, too short", least, Calls.CUT, new int[] {0, -2000, -2000, -2000, 1000, 2000, 2000}, 0);
        due("3: just long enough", least, Calls.CUT, new int[] {0, -2000, -2000, -2000, 1001, 1001, 1001}, 1);
        Check.same("3: a unit less", least.volume(0), 7);
        JointSolids most = Samples.object(1000, 1000, 1000, 1000, 1000, 1000);
        due("3: from the greatest places", most, Calls.CUT, new int[] {0, 2000, 2000, 2000, 2000, 2000, 2000}, 0);
        due("3: of the largest part", most, Calls.CUT, new int[] {0, 1999, 1999, 1999, 2000, 2000, 2000}, 1);
        Check.same("3: a unit less than all", most.volume(0), 999999999L);
        due("3: all of it", most, Calls.CUT, new int[] {0, 1000, 1000, 1000, 1000, 1000, 1000}, 1);
        due("3: of a part without pieces", most, Calls.CUT, new int[] {0, 1000, 1000, 1000, 1000, 1000, 1000}, 0);
        Check.same("3: it stays without", most.pieces(0), 0);
    }

    /** "IllegalArgumentException: c is not 0 .. 100." */
    private static void promise4() {
        int[] zero = {0};
        for (Check.Maker maker : new Check.Maker[] {JointSolids::new, Samples::joined, Samples::full}) {
            bound("4: c", maker, Calls.CLEAR, zero, 0, 0, 100, Check.ARGUMENT);
        }
        int[] left = {500, 499, 401, 400};
        int[] clearances = {0, 1, 99, 100};
        for (int i = 0; i < 4; i++) {
            JointSolids x = Samples.object(0, 0, 0, 1000, 1, 1, 0, 0, 0, 1000, 1, 1);
            x.clear(clearances[i]);
            x.joint(JointSolids.LAP, 0, 1, 0, 1);
            Check.same("4: left of a with " + clearances[i], x.volume(0), left[i]);
            Check.same("4: left of b with " + clearances[i], x.volume(1), 500);
        }
    }

    /** "IndexOutOfBoundsException: no such kind, part, axis; IllegalArgumentException: .. width is not 1 .. 1000". */
    private static void promise5() {
        int[] housing = {JointSolids.HOUSING, 0, 1, 0, 1};
        bound("5: a kind", Samples::pair, Calls.JOINT, Calls.with(housing, 4, 3), 0, 0, 4, Check.INDEX);
        bound("5: an axis", Samples::pair, Calls.JOINT, housing, 3, 0, 2, Check.INDEX);
        for (int kind = 0; kind < 5; kind++) {
            int[] n = Calls.with(housing, 0, kind);
            bound("5: a width of kind " + kind, () -> Samples.object(0, 0, 0, 8, 1, 1, 0, 0, 0, 8, 1, 1), Calls.JOINT,
                n, 4, 1, 1000, Check.ARGUMENT);
            none("5: a of kind " + kind, Samples::pair, Calls.JOINT, n, 1, Check.INDEX, -1, 3, 7, 8, Calls.LOW,
                Calls.HIGH);
            none("5: b of kind " + kind, Samples::pair, Calls.JOINT, n, 2, Check.INDEX, -1, 3, 7, 8, Calls.LOW,
                Calls.HIGH);
            none("5: both are one, of kind " + kind, Samples::pair, Calls.JOINT, n, 2, Check.ARGUMENT, 0);
            none("5: both are one, of kind " + kind, Samples::pair, Calls.JOINT, n, 1, Check.ARGUMENT, 1);
            none("5: of an empty object, kind " + kind, JointSolids::new, Calls.JOINT, n, 0, Check.INDEX, kind);
            none("5: of one part, kind " + kind, () -> Samples.object(0, 0, 0, 8, 8, 8), Calls.JOINT, n, 0,
                Check.INDEX, kind);
        }
        lastPartsJoin();
    }

    private static void lastPartsJoin() {
        JointSolids x = Samples.eightParts();
        x.clear(0);
        due("5: a is 7", x, Calls.JOINT, new int[] {JointSolids.HOUSING, 7, 6, 2, 1000}, 0);
        Check.same("5: part 7 lost all", x.pieces(7), 0);
        due("5: b is 7", x, Calls.JOINT, new int[] {JointSolids.HOUSING, 6, 7, 0, 1}, 1);
        Check.same("5: part 6 lost what the stocks have in common", x.volume(6), 500 * 36 - 500 * 4);
        due("5: a is 0", x, Calls.JOINT, new int[] {JointSolids.HOUSING, 0, 1, 1, 1}, 2);
        Check.same("5: part 0 lost all", x.pieces(0), 0);
        Check.same("5: part 1 nothing", x.volume(1), 12 * 9 * 2);
    }

    private static void promise6() {
        partBounds("6: a part", Calls.PIECES, new int[] {0}, 0);
        Check.same("6: the most", Samples.comb(24).pieces(0), 24);
        Check.same("6: of a new part", Samples.eightParts().pieces(7), 1);
        JointSolids x = Samples.comb(24);
        x.cut(0, -1, -1, -1, 2000, 2000, 2000);
        Check.same("6: none", x.pieces(0), 0);
    }

    /** "Of a piece: x, y, z, X, Y, Z (k = 0 .. 5). IndexOutOfBoundsException: also of k." */
    private static void promise7() {
        partBounds("7: a part", Calls.CORNER, new int[] {0, 0, 0}, 0);
        for (int pieces : new int[] {1, 2, 23, 24}) {
            bound("7: a piece of " + pieces, () -> Samples.comb(pieces), Calls.CORNER, new int[] {0, 0, 0}, 1, 0,
                pieces - 1, Check.INDEX);
            for (int piece = 0; piece < pieces; piece += pieces == 1 ? 1 : pieces - 1) {
                bound("7: k of piece " + piece, () -> Samples.comb(pieces), Calls.CORNER, new int[] {0, piece, 0}, 2,
                    0, 5, Check.INDEX);
            }
        }
        int[] tooth = {55, 0, 0, 56, 10, 10};
        JointSolids x = Samples.comb(24);
        for (int k = 0; k < 6; k++) {
            due("7: the last piece", x, Calls.CORNER, new int[] {0, 23, k}, tooth[k]);
        }
        x.cut(0, 55, 0, 0, 1, 10, 10);
        none("7: a piece that was the last", () -> Samples.comb(23), Calls.CORNER, new int[] {0, 0, 0}, 1,
            Check.INDEX, 23);
        Check.thrown("7: a piece that is gone", Check.INDEX, () -> x.corner(0, 23, 0));
        x.cut(0, 0, 0, 0, 56, 10, 10);
        Check.thrown("7: of a part without pieces", Check.INDEX, () -> x.corner(0, 0, 0));
    }

    private static void promise8() {
        partBounds("8: a part", Calls.VOLUME, new int[] {0}, 0);
        Check.same("8: the least part", Samples.object(-1000, 0, 1000, 1, 1, 1).volume(0), 1);
        JointSolids x = Samples.object(1000, 1000, 1000, 1000, 1000, 1000);
        Check.same("8: the largest", x.volume(0), 1000000000L);
        x.cut(0, 1000, 1000, 1000, 1000, 1000, 999);
        Check.same("8: its last slice", x.volume(0), 1000000);
        x.cut(0, 1000, 1000, 1999, 1000, 1000, 1);
        Check.same("8: without pieces", x.volume(0), 0);
        Check.same("8: of 24 pieces", Samples.comb(24).volume(0), 1000 + 23 * 100);
    }

    private static void promise9() {
        pairBounds("9: a", Calls.OVERLAP, new int[] {0, 0}, 0);
        pairBounds("9: b", Calls.OVERLAP, new int[] {0, 0}, 1);
        bothAreOne("9", Calls.OVERLAP);
    }

    private static void promise10() {
        pairBounds("10: a", Calls.TOUCH, new int[] {0, 0}, 0);
        pairBounds("10: b", Calls.TOUCH, new int[] {0, 0}, 1);
        bothAreOne("10", Calls.TOUCH);
    }

    /** Any place may be asked for, so far away as an int goes. */
    private static void promise11() {
        partBounds("11: a part", Calls.HAS, new int[] {0, 1, 1, 1}, 0);
        for (int x : new int[] {Calls.LOW, Calls.HIGH}) {
            none("11: a place far away of no part", JointSolids::new, Calls.HAS, new int[] {0, x, x, x}, 0,
                Check.INDEX, 0, 8, Calls.LOW, Calls.HIGH);
            due("11: a place far away", Samples.full(), Calls.HAS, new int[] {0, x, x, x}, 0);
        }
    }

    /** "IllegalArgumentException: v is not 0 .. 10000." */
    private static void promise12() {
        for (Check.Maker maker : new Check.Maker[] {JointSolids::new, Samples::joined, Samples::full}) {
            bound("12: a kind", maker, Calls.ROW, new int[] {0, 1}, 0, 0, 4, Check.INDEX);
            for (int kind = 0; kind < 5; kind++) {
                bound("12: the row of " + kind, maker, Calls.ROW, new int[] {kind, 1}, 1, 0, 10000, Check.ARGUMENT);
            }
        }
    }

    private static void promise13() {
        jointBounds("13: a joint", Calls.STRENGTH, new int[] {0});
    }

    private static void promise14() {
        jointBounds("14: a joint", Calls.ABOUT, new int[] {0, 5});
        bound("14: what", Samples::joined, Calls.ABOUT, new int[] {1, 0}, 1, 0, 5, Check.INDEX);
        bound("14: what of the last", Samples::full, Calls.ABOUT, new int[] {11, 0}, 1, 0, 5, Check.INDEX);
        long[] tenon = {JointSolids.TENON, 3, 4, 0, 6 * 4 * 4, 10 * 4 * 4};
        for (int what = 0; what < 6; what++) {
            due("14: what " + what, Samples.full(), Calls.ABOUT, new int[] {1, what}, tenon[what]);
        }
        long[] last = {JointSolids.HOUSING, 6, 7, 2, 0, 0};
        for (int what = 0; what < 6; what++) {
            due("14: what " + what + " of the last", Samples.full(), Calls.ABOUT, new int[] {11, what}, last[what]);
        }
    }

    /** "The first pair of parts (8 * a + b, a below b) that OVERLAP; NONE if none do." */
    private static void promise15() {
        Check.same("15: of no part", new JointSolids().first(), -1);
        Check.same("15: of one", Samples.object(0, 0, 0, 9, 9, 9).first(), -1);
        for (int a = 0; a < 8; a++) {
            for (int b = a + 1; b < 8; b++) {
                Check.same("15: " + a + " and " + b + " alone", eightWithPair(a, b, 9).first(), 8 * a + b);
                Check.same("15: " + a + " and " + b + " only touch", eightWithPair(a, b, 10).first(), -1);
            }
        }
        JointSolids all = new JointSolids();
        for (int i = 0; i < 8; i++) {
            all.part(0, 0, 0, 1, 1, 1);
        }
        Check.same("15: all do", all.first(), 1);
        for (int i = 0; i < 6; i++) {
            all.cut(i, 0, 0, 0, 1, 1, 1);
            Check.same("15: without those up to " + i, all.first(), 8 * (i + 1) + i + 2);
        }
        all.cut(6, 0, 0, 0, 1, 1, 1);
        Check.same("15: one that is left alone", all.first(), -1);
        all.cut(7, 0, 0, 0, 1, 1, 1);
        Check.same("15: eight without pieces", all.first(), -1);
    }

    /** Eight cubes of 10 far from each other, but for b, which begins so far behind the beginning of a. */
    private static JointSolids eightWithPair(int a, int b, int behind) {
        JointSolids x = new JointSolids();
        for (int i = 0; i < 8; i++) {
            x.part(i == b ? 100 * a + behind : 100 * i, 0, 0, 10, 10, 10);
        }
        return x;
    }

    public static void main(String[] args) {
        promise1();
        promise2();
        promise3();
        promise4();
        promise5();
        promise6();
        promise7();
        promise8();
        promise9();
        promise10();
        promise11();
        promise12();
        promise13();
        promise14();
        promise15();
        Check.end("BoundsTest");
    }
}
