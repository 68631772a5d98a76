/** The boundaries of TRIERS, promises 16 to 18, each on both sides. */
public final class TrierBoundsTest {
    private static final int NONE = Run.NONE, UNKNOWN = Run.UNKNOWN, OUTSIDE = Run.OUTSIDE, STATE = Run.STATE, FULL = Run.FULL;
    private static final int[] NOT_KINDS = {-1, 5, Run.LEAST, Run.MOST};

    private static Run with(String kitchen, int kind) {
        return Run.in(kitchen).due("trier(" + kind + ")", 0);
    }

    private static void trier() {
        Run.sentence(16, "OUTSIDE: kind");
        for (int kind = 0; kind <= 4; kind++) with("21:735;11", kind).due("about(0, 0)", kind);
        for (int kind : NOT_KINDS) Run.in("21:735;11").keeps("trier(" + kind + ")", OUTSIDE).due("trier(0)", 0);
        Run.sentence(16, "STATE: no KITCHEN");
        Run.fresh().keeps("trier(0)", STATE).keeps("trier(4)", STATE);
        Run.page("21:735;11").keeps("trier(0)", STATE).due("kitchen()", 2).due("trier(0)", 0);
        Run.sentence(16, "A TRIER (4 at most): his number; FULL");
        for (int kind = 0; kind <= 4; kind++) {
            Run run = Run.in("21:735;11");
            for (int number = 0; number < 4; number++) run.due("trier(" + kind + ")", number);
            for (int more = 0; more <= 4; more++) run.keeps("trier(" + more + ")", FULL);
            run.due("count(7)", 4);
        }
        Run.sentence(16, "4 at most: an IMAGE, another KITCHEN");
        Run run = Run.in("21:735;11").then("trier(3)", "trier(3)", "trier(3)", "image()").due("trier(3)", 3).keeps("trier(3)", FULL);
        run.due("restore()", 2).due("count(7)", 3).due("trier(1)", 3).keeps("trier(1)", FULL).due("about(3, 0)", 1).due("about(2, 0)", 3);
        run.write("21:735;11").due("kitchen()", 2).due("count(7)", 0);
        for (int number = 0; number < 4; number++) run.due("trier(2)", number);
        run.keeps("trier(2)", FULL);
        Run.sentence(16, "of several refusals OUTSIDE ahead of STATE, ahead of FULL");
        for (int kind : NOT_KINDS) {
            Run.fresh().keeps("trier(" + kind + ")", OUTSIDE);
            Run.in("21:735;11").times(4, "trier(0)").keeps("trier(" + kind + ")", OUTSIDE);
        }
    }

    private static void about() {
        Run.sentence(17, "UNKNOWN: a TRIER's number");
        Run run = Run.in("21:735;11");
        for (int triers = 0; triers <= 4; triers++) {
            if (triers > 0) run.due("trier(" + triers + ")", triers - 1).due("about(" + (triers - 1) + ", 0)", triers);
            for (int number : new int[] {-1, triers, 4, Run.LEAST, Run.MOST}) {
                run.due("about(" + number + ", 0)", UNKNOWN).due("about(" + number + ", 1)", UNKNOWN);
            }
        }
        run.keeps("about(-1, 0)", UNKNOWN).keeps("about(4, 1)", UNKNOWN);
        Run.in("21:735;11").then("trier(3)", "image()", "trier(3)").due("about(1, 0)", 3).then("restore()").keeps("about(1, 0)", UNKNOWN)
            .keeps("about(0, 0)", 3);
        Run.sentence(17, "OUTSIDE: what = 0 KIND, 1 the NEXT EGG");
        with("21:735;12", 3).keeps("about(0, 0)", 3).keeps("about(0, 1)", 1);
        for (int what : new int[] {-1, 2, Run.LEAST, Run.MOST}) with("21:735;12", 3).keeps("about(0, " + what + ")", OUTSIDE);
        Run.sentence(17, "of several refusals UNKNOWN ahead of OUTSIDE");
        with("21:735;12", 3).keeps("about(1, 2)", UNKNOWN).keeps("about(-1, -1)", UNKNOWN);
        Run.fresh().keeps("about(0, 2)", UNKNOWN);
        Run.sentence(17, "NONE: no EGG is in the box");
        for (int kind = 0; kind <= 4; kind++) {
            with("21:735;12", kind).due("crack(0, true)", 1).due("about(0, 1)", 1).due("stop(1, 2)", 0).keeps("about(0, 1)", NONE);
            with("21:735;12", kind).due("crack(1, true)", 1).due("about(0, 1)", 0).due("crack(0, false)", 0).keeps("about(0, 1)", NONE)
                .due("about(0, 0)", kind);
        }
    }

    private static void next() {
        Run.sentence(17, "TRIER the first in the box");
        with("31:735;142", 0).due("about(0, 1)", 0).due("stop(0, 2)", 2).due("about(0, 1)", 1).due("stop(1, 0)", 2).due("about(0, 1)", 1)
            .due("crack(1, false)", 1).due("about(0, 1)", 2);
        Run.sentence(17, "DOUBTER nearest to one half (above or below alike), of like ones the least");
        with("31:735;131", 1).due("about(0, 1)", 1);
        with("31:735;113", 1).due("about(0, 1)", 2);
        with("31:735;111", 1).due("about(0, 1)", 0);
        with("31:735;133", 1).due("about(0, 1)", 1);
        with("31:735;431", 1).due("stop(2, 0)", 3).due("about(0, 1)", 0);
        with("31:735;341", 1).due("stop(2, 0)", 3).due("about(0, 1)", 0);
        with("31:735;131", 1).due("stop(0, 0)", 3).due("about(0, 1)", 1);
        with("31:735;113", 1).due("stop(0, 0)", 3).due("about(0, 1)", 1);
        // A surely boiled and a surely raw one are as far from one half.
        with("21:735;11", 1).due("stop(1, 1)", 2).due("about(0, 1)", 0);
        with("21:735;11", 1).due("stop(1, 0)", 2).due("about(0, 1)", 0);
        // Boiled as likely as 6 by 7, 4 by 7 and 4 by 7.
        with("32:735;311", 1).due("about(0, 1)", 1);
        Run.sentence(17, "BOLD likeliest raw, of like ones the least");
        with("31:735;211", 2).due("about(0, 1)", 1).due("stop(1, 2)", 2).due("about(0, 1)", 2);
        with("31:735;221", 2).due("about(0, 1)", 2);
        with("31:735;111", 2).due("about(0, 1)", 0);
        Run.sentence(17, "HUNGRY likeliest boiled, of like ones the least");
        with("31:735;122", 3).due("about(0, 1)", 1).due("stop(1, 2)", 2).due("about(0, 1)", 2);
        with("31:735;123", 3).due("about(0, 1)", 2);
        with("31:735;111", 3).due("about(0, 1)", 0);
        Run.sentence(17, "GREEDY the last of those that are likeliest boiled");
        with("31:735;221", 4).due("about(0, 1)", 1).due("stop(1, 2)", 2).due("about(0, 1)", 0);
        with("31:735;321", 4).due("about(0, 1)", 0);
        with("31:735;111", 4).due("about(0, 1)", 2);
        with("63:735;111111", 4).due("about(0, 1)", 5).due("stop(5, 2)", 5).due("about(0, 1)", 4);
    }

    private static void as() {
        Run.sentence(18, "UNKNOWN: a TRIER's number");
        Run run = Run.in("21:735;11");
        for (int triers = 0; triers <= 4; triers++) {
            if (triers > 0) run.due("trier(" + triers + ")", triers - 1).due("as(" + (triers - 1) + ", 0)", triers - 1);
            for (int number : new int[] {-1, triers, 4, Run.LEAST, Run.MOST}) run.due("as(" + number + ", 0)", UNKNOWN);
        }
        run.keeps("as(-1, 0)", UNKNOWN).keeps("as(4, 3)", UNKNOWN);
        Run.in("21:735;11").then("trier(3)", "image()", "trier(3)").due("as(1, 3)", 1).then("restore()").keeps("as(1, 3)", UNKNOWN);
        Run.sentence(18, "OUTSIDE: kind");
        with("21:735;11", 4).keeps("as(0, 0)", 0).keeps("as(0, 4)", 0);
        for (int kind : NOT_KINDS) with("21:735;11", 4).keeps("as(0, " + kind + ")", OUTSIDE);
        Run.sentence(18, "of several refusals UNKNOWN ahead of OUTSIDE");
        with("21:735;11", 4).keeps("as(1, 5)", UNKNOWN).keeps("as(-1, -1)", UNKNOWN);
        Run.fresh().keeps("as(0, 5)", UNKNOWN);
        Run.sentence(18, "his number; NONE: he is none such. All are TRIERS; a GREEDY one is HUNGRY, too");
        boolean[][] isOne = {{true, false, false, false, false}, {true, true, false, false, false}, {true, false, true, false, false},
            {true, false, false, true, false}, {true, false, false, true, true}};
        for (int kind = 0; kind <= 4; kind++) {
            Run taken = Run.in("21:735;11").times(4, "trier(" + kind + ")");
            for (int as = 0; as <= 4; as++) {
                for (int number = 0; number < 4; number++) taken.due("as(" + number + ", " + as + ")", isOne[kind][as] ? number : NONE);
                with("21:735;11", kind).keeps("as(0, " + as + ")", isOne[kind][as] ? 0 : NONE);
            }
        }
    }

    public static void main(String[] args) {
        Watch.begin();
        trier();
        about();
        next();
        as();
        Run.end();
    }
}
