import java.util.ArrayList;
import java.util.List;
import java.util.function.Supplier;

/**
 * "Refused, and nothing changes, the first of these that is so": each call, with each of its numbers just
 * outside and far outside what it may be, and in each state that refuses it; the object is held against one
 * of which the call was not asked.
 */
public final class RefusedTest {
    private static final int BAD = -1, STATE = -2, FULL = -3, NONE = -9, BAD_KIND = -5;
    private static final Check CHECK = new Check();

    interface Call {
        int of(GroundEdges g, int[] a);
    }

    /** A call with numbers that may be, and the least and greatest that each of them may be. */
    record Asked(String name, Call call, int bad, int[] good, int[] least, int[] greatest) {
        String with(int[] a) {
            return name + java.util.Arrays.toString(a);
        }
    }

    public static void main(String[] args) {
        CHECK.sentence("Refused, and nothing changes, the first of these that is so: BAD (a number is not as told, or there is no such thing), STATE (as told), FULL.");
        List<Supplier<GroundEdges>> states = List.of(GroundEdges::new, RefusedTest::ordinary, RefusedTest::full, RefusedTest::calm);
        for (Supplier<GroundEdges> state : states) {
            String whole = Snapshot.whole(state);
            eachNumber(state, whole);
            numbersTogether(state, whole);
            aTextWithAFault(state, whole);
            askedAlone(state, whole);
        }
        states();
        badComesFirst();
        CHECK.end();
    }

    // ---- states to be refused in

    /** Jarring with a way, image 1 not kept, less of everything than there may be. */
    private static GroundEdges ordinary() {
        GroundEdges g = Check.told("row 12;row 01;");
        g.keep(0);
        Check.tell(g, "row 03;row 12;row 00;fix 0 1;beyond 2;");
        g.floods(0, 2, 1);
        g.sees(1, NONE);
        g.sees(2, NONE);
        Check.type(g, "row 1");
        return g;
    }

    /** No way to settle, and as much of everything as there may be. */
    private static GroundEdges full() {
        GroundEdges g = Check.told("row 0;");
        g.keep(1);
        Check.tell(g, "row 03;row 12;row 33;fix 0 0;fix 1 0;beyond 1;");
        g.keep(0);
        for (int i = 0; i < 8; i++) {
            g.paints(0, 2, 0, 2, i % 4);
        }
        for (int i = 0; i < 6; i++) {
            g.sees(1, NONE);
        }
        Check.type(g, "row 3;" + " ".repeat(114));
        return g;
    }

    /** Nothing jars, all is fixed, nothing can be undone. */
    private static GroundEdges calm() {
        GroundEdges g = Check.told("row 11;row 12;row 22;fix 0 0;fix 1 0;fix 0 1;fix 1 1;fix 0 2;fix 1 2;");
        g.keep(0);
        g.keep(1);
        g.back(1);
        return g;
    }

    // ---- BAD

    private static List<Asked> calls(GroundEdges g) {
        int right = g.count(0) - 1;
        int low = g.count(1) - 1;
        int kinds = g.kind(-1, 0);
        int cells = g.count(0) * g.count(1);
        List<Asked> all = new ArrayList<>();
        all.add(new Asked("type", (o, a) -> o.type(a[0]), BAD, new int[] {97}, new int[] {0}, new int[] {255}));
        all.add(new Asked("paints", (o, a) -> o.paints(a[0], a[1], a[2], a[3], a[4]), BAD, new int[] {0, 0, right, low, 1},
            new int[] {0, 0, 0, 0, 0}, new int[] {right, low, right, low, 3}));
        all.add(new Asked("floods", (o, a) -> o.floods(a[0], a[1], a[2]), BAD, new int[] {0, 0, 1}, new int[] {0, 0, 0}, new int[] {right, low, 3}));
        all.add(new Asked("fixes", (o, a) -> o.fixes(a[0], a[1], a[2]), BAD, new int[] {0, 0, 1}, new int[] {0, 0, 0}, new int[] {right, low, 1}));
        all.add(new Asked("cell", (o, a) -> o.cell(a[0], a[1], a[2]), BAD, new int[] {0, 0, 1}, new int[] {0, 0, 0}, new int[] {right, low, 2}));
        all.add(new Asked("square", (o, a) -> o.square(a[0], a[1], a[2], a[3]), BAD, new int[] {0, 0, 1, 1}, new int[] {0, 0, 1, 0}, new int[] {right, low, 3, 1}));
        all.add(new Asked("kind", (o, a) -> o.kind(a[0], a[1]), BAD_KIND, new int[] {0, 0}, new int[] {-1, 0}, new int[] {kinds - 1, 3}));
        all.add(new Asked("least", (o, a) -> o.least(a[0]), BAD, new int[] {0}, new int[] {-1}, new int[] {cells - 1}));
        all.add(new Asked("sees", (o, a) -> o.sees(a[0], a[1]), BAD, new int[] {1, 1}, new int[] {1, 0}, new int[] {3, 46}));
        all.add(new Asked("which", (o, a) -> o.which(a[0]), BAD, new int[] {0}, new int[] {0}, new int[] {1}));
        all.add(new Asked("keep", (o, a) -> o.keep(a[0]), BAD, new int[] {0}, new int[] {0}, new int[] {1}));
        all.add(new Asked("back", (o, a) -> o.back(a[0]), BAD, new int[] {0}, new int[] {0}, new int[] {1}));
        all.add(new Asked("count", (o, a) -> o.count(a[0]), BAD, new int[] {0}, new int[] {0}, new int[] {7}));
        return all;
    }

    /** Numbers that are none of these; some of them are as one that is, but for bits that a short or a byte has not. */
    private static int[] outside(int least, int greatest) {
        return new int[] {least - 1, greatest + 1, least - 2, greatest + 2, least - 100, greatest + 100, least + (1 << 8), greatest + (1 << 8), least + (1 << 16), greatest - (1 << 16),
            least + (1 << 31), greatest + (1 << 31), least + (1 << 30), Integer.MIN_VALUE, Integer.MIN_VALUE + 1, Integer.MAX_VALUE, Integer.MAX_VALUE - 1};
    }

    private static void eachNumber(Supplier<GroundEdges> state, String whole) {
        for (Asked asked : calls(state.get())) {
            for (int i = 0; i < asked.good.length; i++) {
                for (int number : outside(asked.least[i], asked.greatest[i])) {
                    boolean seesNone = asked.name.equals("sees") && i == 1 && number == NONE;
                    boolean within = number >= asked.least[i] && number <= asked.greatest[i];
                    if (!seesNone && !within) {
                        int[] a = asked.good.clone();
                        a[i] = number;
                        refused(asked.with(a), state, whole, g -> asked.call.of(g, a), asked.bad);
                    }
                }
            }
        }
    }

    /** Two numbers that may be each, but not together; and all of them wrong at once. */
    private static void numbersTogether(Supplier<GroundEdges> state, String whole) {
        GroundEdges g = state.get();
        for (int height = 0; height <= 3; height++) {
            int h = height;
            int right = g.count(0) - 1;
            int low = g.count(1) - 1;
            if (right > 0) {
                refused("paints, x2 less than x", state, whole, o -> o.paints(1, 0, 0, 0, h), BAD);
                refused("paints, x2 less than x", state, whole, o -> o.paints(right, 0, right - 1, low, h), BAD);
            }
            if (low > 0) {
                refused("paints, y2 less than y", state, whole, o -> o.paints(0, 1, 0, 0, h), BAD);
                refused("paints, y2 less than y", state, whole, o -> o.paints(0, low, right, low - 1, h), BAD);
            }
            refused("paints, x2 less than x, below 0", state, whole, o -> o.paints(0, 0, -1, 0, h), BAD);
            refused("paints, y2 less than y, below 0", state, whole, o -> o.paints(0, 0, 0, -1, h), BAD);
        }
        for (int what = -3; what <= 4; what++) {
            int w = what;
            if (what != 0) {
                refused("kind(-1, " + what + ")", state, whole, o -> o.kind(-1, w), BAD_KIND);
            }
        }
        for (Asked asked : calls(g)) {
            for (int number : new int[] {-100, 1000, Integer.MIN_VALUE, Integer.MAX_VALUE}) {
                int[] a = new int[asked.good.length];
                java.util.Arrays.fill(a, number);
                refused(asked.with(a), state, whole, o -> asked.call.of(o, a), asked.bad);
            }
        }
        for (int square : new int[] {-1, -2, -3, -8, -10, -19, 47, 48, 255}) {
            refused("sees(1, " + square + ")", state, whole, o -> o.sees(1, square), BAD);
        }
    }

    private static void aTextWithAFault(Supplier<GroundEdges> state, String whole) {
        if (state.get().tells() < 0) {
            int fault = state.get().tells();
            refused("tells()", state, whole, o -> o.tells(), fault);
        }
    }

    /** What is only asked changes nothing, either. */
    private static void askedAlone(Supplier<GroundEdges> state, String whole) {
        CHECK.same("what was asked", Snapshot.whole(() -> {
            GroundEdges g = state.get();
            Snapshot.asked(g);
            return g;
        }), whole);
    }

    // ---- STATE, FULL

    private static void states() {
        String fresh = Snapshot.whole(GroundEdges::new);
        refused("paints()", GroundEdges::new, fresh, g -> g.paints(0, 0, 0, 0, 0), STATE);
        refused("floods()", GroundEdges::new, fresh, g -> g.floods(0, 0, 0), STATE);
        refused("fixes()", GroundEdges::new, fresh, g -> g.fixes(0, 0, 0), STATE);
        refused("settles()", GroundEdges::new, fresh, g -> g.settles(), STATE);
        refused("undo()", GroundEdges::new, fresh, g -> g.undo(), STATE);
        refused("back(0)", GroundEdges::new, fresh, g -> g.back(0), STATE);
        refused("back(1)", GroundEdges::new, fresh, g -> g.back(1), STATE);
        refused("tells()", GroundEdges::new, fresh, g -> g.tells(), -10);
        String ordinary = Snapshot.whole(RefusedTest::ordinary);
        refused("back(1)", RefusedTest::ordinary, ordinary, g -> g.back(1), STATE);
        refused("tells()", RefusedTest::ordinary, ordinary, g -> g.tells(), -15);
        refused("paints()", RefusedTest::ordinary, ordinary, g -> g.paints(0, 1, 0, 2, 1), STATE);
        refused("floods()", RefusedTest::ordinary, ordinary, g -> g.floods(1, 0, 3), STATE);
        refused("fixes()", RefusedTest::ordinary, ordinary, g -> g.fixes(0, 1, 1), STATE);
        refused("fixes()", RefusedTest::ordinary, ordinary, g -> g.fixes(1, 1, 0), STATE);
        String full = Snapshot.whole(RefusedTest::full);
        refused("settles() without a way", RefusedTest::full, full, g -> g.settles(), STATE);
        refused("the 121st letter", RefusedTest::full, full, g -> g.type(';'), FULL);
        refused("the seventh that is seen", RefusedTest::full, full, g -> g.sees(3, 46), FULL);
        refused("the seventh that is seen", RefusedTest::full, full, g -> g.sees(1, NONE), FULL);
        String calm = Snapshot.whole(RefusedTest::calm);
        refused("settles() of none", RefusedTest::calm, calm, g -> g.settles(), STATE);
        refused("undo()", RefusedTest::calm, calm, g -> g.undo(), STATE);
    }

    private static void badComesFirst() {
        CHECK.sentence("the first of these that is so: BAD (a number is not as told, or there is no such thing), STATE (as told), FULL.");
        GroundEdges g = full();
        CHECK.due("type(256), the text being full", g.type(256), BAD);
        CHECK.due("type(-1), the text being full", g.type(-1), BAD);
        CHECK.due("sees(4, 0), six being seen", g.sees(4, 0), BAD);
        CHECK.due("sees(1, 47), six being seen", g.sees(1, 47), BAD);
        CHECK.due("least(6), no way being there", g.least(6), BAD);
        CHECK.due("least(-2), no way being there", g.least(-2), BAD);
        CHECK.due("fixes(0, 0, 2), the cell being fixed", g.fixes(0, 0, 2), BAD);
        g = new GroundEdges();
        CHECK.due("back(2), none being kept", g.back(2), BAD);
        CHECK.due("paints(0, 0, 1, 0, 0), all being of that height", g.paints(0, 0, 1, 0, 0), BAD);
        CHECK.due("floods(0, 1, 0), all being of that height", g.floods(0, 1, 0), BAD);
    }

    private static void refused(String call, Supplier<GroundEdges> state, String whole, java.util.function.ToIntFunction<GroundEdges> asked, int want) {
        CHECK.dueFrom(call, () -> asked.applyAsInt(state.get()), want);
        CHECK.same("what is behind " + call, Snapshot.whole(() -> {
            GroundEdges g = state.get();
            asked.applyAsInt(g);
            return g;
        }), whole);
    }
}
