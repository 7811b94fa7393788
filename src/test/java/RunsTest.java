import java.util.Arrays;
import java.util.Map;
import java.util.TreeMap;

/**
 * Runs of 512 calls on one object, in which parts, cuts, clearances and joints of every kind follow each other and are
 * asked about at once, in small and in the largest numbers. Each answer is compared with a slow second class, and with
 * a twin object that does not get the calls that throw.
 */
public final class RunsTest {
    private static final int RUNS = 1000;
    private static final int CALLS = 512;
    /** Numbers just beside what one call or another allows, and far from all. */
    private static final int[] WRONG = {-1, 0, 3, 5, 6, 8, 12, 24, 101, 1001, -1001, 2001, -2001, 10001, Calls.LOW,
        Calls.HIGH};

    /** How often what the runs are for came about, over all runs. */
    private static final Map<String, Integer> SEEN = new TreeMap<>();

    private final int number;
    private long seed;
    private final JointSolids x = new JointSolids();
    private final JointSolids twin = new JointSolids();
    private final SlowSolids slow = new SlowSolids();
    private int used = 0;
    /** Places lie on a lattice, so that sides meet: from an origin on, a step apart. */
    private final int step;
    private final int origin;
    private final boolean[] made = new boolean[5];

    private RunsTest(int number) {
        this.number = number;
        this.seed = number;
        step = new int[] {1, 2, 3, 10, 61, 125, 200}[number % 7];
        origin = step == 200 ? -1000 : pick(-5, 5) * step;
    }

    /** A number from low to high, the same ones each time that the test runs. */
    private int pick(int low, int high) {
        seed = seed * 6364136223846793005L + 1442695040888963407L;
        return low + (int) ((seed >>> 33) % (high - low + 1));
    }

    private boolean oneOf(int many) {
        return pick(1, many) == 1;
    }

    /** Makes one call more, if the object has one left. */
    private String say(String call, int... n) {
        if (used == CALLS) {
            return "";
        }
        used++;
        String what = "run " + number + ", call " + used + ", " + call + Arrays.toString(n);
        String due = slow.told(call, n);
        Check.same(what, Check.told(() -> Calls.BY_NAME.get(call).on(x, n)), due);
        if (Check.isAnswer(due)) {
            Check.same(what + " of the twin", Check.told(() -> Calls.BY_NAME.get(call).on(twin, n)), due);
        }
        SEEN.merge(call + (Check.isAnswer(due) ? "" : " " + due), 1, Integer::sum);
        return due;
    }

    private int place(int lattice) {
        int near = oneOf(8) ? pick(-1, 1) : 0;
        return Math.max(-1000, Math.min(1000, origin + lattice * step + near));
    }

    private int size(int least, int most) {
        int near = oneOf(8) ? pick(-1, 1) : 0;
        return Math.max(1, Math.min(1000, pick(least, most) * step + near));
    }

    /** Now and then a number that is not allowed takes the place of a good one. */
    private int[] spoilt(int... n) {
        if (oneOf(25)) {
            n[pick(0, n.length - 1)] = WRONG[pick(0, WRONG.length - 1)];
        }
        return n;
    }

    private int aPart() {
        return pick(0, Math.max(0, slow.parts() - 1));
    }

    /** A beam along one of the axes; beams cross each other in boxes that are smaller than both. */
    private void tellPart() {
        int along = pick(0, 3);
        int[] n = new int[6];
        for (int i = 0; i < 3; i++) {
            n[i] = place(i == along ? 0 : pick(0, 2));
            n[i + 3] = size(i == along ? 9 : 2, i == along ? 9 : 4);
        }
        if (along == 3) {
            n = new int[] {place(0), place(0), place(0), size(2, 6), size(2, 6), size(2, 6)};
        }
        say("part", spoilt(n));
    }

    private void tellCut() {
        int part = aPart();
        int most = oneOf(20) ? 6 : 1;
        int[] n = {part, place(pick(-1, 8)), place(pick(-1, 5)), place(pick(-1, 5)), size(1, most), size(1, most),
            size(1, most)};
        if (oneOf(90)) {
            n = new int[] {part, -2000, pick(-2000, 0), -2000, 2000, 2000, pick(1, 2000)};
        } else if (!oneOf(3) && !slow.noPart(part) && slow.piecesOf(part) > 0) {
            int[] piece = slow.piece(part, pick(0, slow.piecesOf(part) - 1));
            for (int i = 0; i < 3; i++) {
                n[i + 1] = piece[i] + pick(0, (piece[i + 3] - piece[i]) / step) * step;
            }
        }
        boolean changed = !say("cut", spoilt(n)).equals("0");
        if (changed && oneOf(2)) {
            askPart(part);
        }
    }

    private void tellJoint() {
        int a = aPart();
        int b = oneOf(20) ? a : (a + 1) % Math.max(1, slow.parts());
        int width = oneOf(10) ? pick(1, 1000) : (step * pick(1, 3) + 1) / 2;
        int[] n = spoilt(oneOf(4) ? JointSolids.FINGERS : pick(0, 4), a, b, pick(0, 2), width);
        String told = say("joint", n);
        if (told.equals("throws." + Check.STATE)) {
            count("a joint hindered: " + slow.hindrance());
        } else if (told.startsWith("-")) {
            count("a joint that lacks something");
        } else if (Check.isAnswer(told) && !told.isEmpty()) {
            made[n[0]] = true;
            count("kind " + n[0] + (slow.clearance() > 0 ? " with a clearance" : ""));
            say("about", slow.jointsMade() - 1, 4);
            say("about", slow.jointsMade() - 1, 5);
            say("strength", slow.jointsMade() - 1);
        }
        askPart(a);
        askPart(b);
        askPair(a, b);
    }

    private static void count(String what) {
        SEEN.merge(what, 1, Integer::sum);
    }

    private void askPart(int part) {
        say("pieces", part);
        say("volume", part);
        int piece = slow.noPart(part) ? 0 : Math.max(0, pick(0, slow.piecesOf(part)) - pick(0, 1));
        for (int k = pick(3, 5); k >= 0; k -= 2) {
            say("corner", spoilt(part, piece, k));
        }
        say("has", spoilt(part, place(pick(-1, 9)), place(pick(-1, 5)), place(pick(-1, 5))));
    }

    private void askPair(int a, int b) {
        say("overlap", spoilt(a, b));
        say("touch", spoilt(a, b));
        say("first");
    }

    private void askJoint() {
        int joint = pick(0, slow.jointsMade());
        say("strength", spoilt(joint));
        say("about", spoilt(joint, pick(0, 5)));
        say("has", aPart(), place(pick(0, 8)), place(pick(0, 4)), place(pick(0, 4)));
    }

    /** All pieces of a part, corner by corner. */
    private void askAll(int part) {
        say("pieces", part);
        for (int piece = 0; !slow.noPart(part) && piece < slow.piecesOf(part); piece++) {
            for (int k = 0; k < 6; k++) {
                say("corner", part, piece, k);
            }
        }
    }

    private void run() {
        say("first");
        int parts = pick(2, 4);
        for (int i = 0; i < parts; i++) {
            tellPart();
        }
        while (used < CALLS - 100) {
            switch (pick(0, 9)) {
                case 0:
                    say("clear", spoilt(oneOf(3) ? 0 : oneOf(3) ? pick(0, 100) : (step + 3) / 4));
                    break;
                case 1:
                    say("row", spoilt(pick(0, 4), pick(0, 10000)));
                    askJoint();
                    break;
                case 2:
                    if (oneOf(4)) {
                        tellPart();
                    }
                    askPair(aPart(), aPart());
                    break;
                case 3:
                case 4:
                    tellJoint();
                    break;
                default:
                    tellCut();
                    break;
            }
        }
        for (int part = 0; used < CALLS; part = (part + 1) % 8) {
            askAll(part);
            askPair(part, aPart());
        }
        Check.same("run " + number + ": calls", used, CALLS);
        summary();
    }

    private void summary() {
        boolean every = true;
        for (boolean kind : made) {
            every &= kind;
        }
        if (every) {
            count("every kind in one run");
        }
        if (slow.jointsMade() == 12) {
            count("12 joints");
        }
        for (int part = 0; part < slow.parts(); part++) {
            if (slow.piecesOf(part) == 24) {
                count("24 pieces");
            }
        }
    }

    private static void often(String what) {
        Check.same("the runs came to this often: " + what, SEEN.getOrDefault(what, 0) >= 100, true);
    }

    /** The runs are worth nothing if they do not come to what they are for. */
    private static void all() {
        for (int kind = 0; kind < 5; kind++) {
            often("kind " + kind);
            often("kind " + kind + " with a clearance");
        }
        for (String why : new String[] {"12 joints", "no common box", "too many slices", "no room"}) {
            often("a joint hindered: " + why);
        }
        for (String call : Calls.BY_NAME.keySet()) {
            often(call);
        }
        often("a joint that lacks something");
        often("cut throws." + Check.STATE);
        often("every kind in one run");
        often("12 joints");
        often("24 pieces");
    }

    public static void main(String[] args) {
        for (int i = 0; i < RUNS; i++) {
            new RunsTest(i).run();
        }
        all();
        Check.end("RunsTest");
    }
}
