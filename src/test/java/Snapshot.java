import java.util.function.Supplier;

/** All that an object can be asked, as one text: two objects in one state have one text. */
final class Snapshot {
    private static final int MOST_UNDONE = 6;
    private final StringBuilder answers = new StringBuilder();

    private Snapshot() { }

    private Snapshot add(String call, int answer) {
        answers.append(call).append('=').append(answer).append(' ');
        return this;
    }

    /** By calls that change nothing. */
    static String asked(GroundEdges g) {
        Snapshot all = new Snapshot();
        for (int what = 0; what < 8; what++) {
            all.add("count(" + what + ")", g.count(what));
        }
        for (int n = 0; n < g.count(0) * g.count(1); n++) {
            int x = n % g.count(0);
            int y = n / g.count(0);
            for (int what = 0; what < 3; what++) {
                all.add("cell(" + x + ", " + y + ", " + what + ")", g.cell(x, y, what));
                all.add("square(" + x + ", " + y + ", " + (what + 1) + ", 0)", g.square(x, y, what + 1, 0));
            }
            all.add("least(" + n + ")", g.least(n));
        }
        for (int k = 0; k < g.kind(-1, 0); k++) {
            all.add("kind(" + k + ", 0)", g.kind(k, 0));
        }
        all.add("jars()", g.jars()).add("least(-1)", g.least(-1));
        all.add("which(0)", g.which(0)).add("which(1)", g.which(1)).add("look()", g.look());
        return all.answers.toString();
    }

    private static String ground(GroundEdges g) {
        return "[" + Check.map(g) + "|" + Check.fixedCells(g) + "|" + g.count(2) + "] ";
    }

    /** What only calls that change something can tell, too; each of them is asked of an object made anew. */
    static String whole(Supplier<GroundEdges> made) {
        StringBuilder all = new StringBuilder(asked(made.get()));
        GroundEdges undone = made.get();
        for (int i = 0; i <= MOST_UNDONE; i++) {
            all.append("undo()=").append(undone.undo()).append(ground(undone));
        }
        for (int image = 0; image < 2; image++) {
            GroundEdges back = made.get();
            all.append("back(").append(image).append(")=").append(back.back(image)).append(ground(back));
        }
        GroundEdges told = made.get();
        all.append("tells()=").append(told.tells()).append(ground(told));
        all.append("clear()=").append(told.clear()).append(" forget()=").append(told.forget());
        return all.toString();
    }
}
