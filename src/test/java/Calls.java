import java.util.Map;

/** The calls of the face, each with its numbers as a row: so that one of them can be put in the place of another. */
interface Calls {
    int LOW = Integer.MIN_VALUE;
    int HIGH = Integer.MAX_VALUE;

    /** A boolean counts 1 or 0, no answer 0. */
    long on(JointSolids x, int... n);

    Calls PART = (x, n) -> x.part(n[0], n[1], n[2], n[3], n[4], n[5]);
    Calls CUT = (x, n) -> x.cut(n[0], n[1], n[2], n[3], n[4], n[5], n[6]) ? 1 : 0;
    Calls CLEAR = (x, n) -> {
        x.clear(n[0]);
        return 0;
    };
    Calls JOINT = (x, n) -> x.joint(n[0], n[1], n[2], n[3], n[4]);
    Calls PIECES = (x, n) -> x.pieces(n[0]);
    Calls CORNER = (x, n) -> x.corner(n[0], n[1], n[2]);
    Calls VOLUME = (x, n) -> x.volume(n[0]);
    Calls OVERLAP = (x, n) -> x.overlap(n[0], n[1]);
    Calls TOUCH = (x, n) -> x.touch(n[0], n[1]);
    Calls HAS = (x, n) -> x.has(n[0], n[1], n[2], n[3]) ? 1 : 0;
    Calls ROW = (x, n) -> {
        x.row(n[0], n[1]);
        return 0;
    };
    Calls STRENGTH = (x, n) -> x.strength(n[0]);
    Calls ABOUT = (x, n) -> x.about(n[0], n[1]);
    Calls FIRST = (x, n) -> x.first();

    Map<String, Calls> BY_NAME = Map.ofEntries(Map.entry("part", PART), Map.entry("cut", CUT),
        Map.entry("clear", CLEAR), Map.entry("joint", JOINT), Map.entry("pieces", PIECES), Map.entry("corner", CORNER),
        Map.entry("volume", VOLUME), Map.entry("overlap", OVERLAP), Map.entry("touch", TOUCH), Map.entry("has", HAS),
        Map.entry("row", ROW), Map.entry("strength", STRENGTH), Map.entry("about", ABOUT), Map.entry("first", FIRST));

    /** The same numbers with another one at a place. */
    static int[] with(int[] numbers, int at, int v) {
        int[] changed = numbers.clone();
        changed[at] = v;
        return changed;
    }
}
