/** The boundaries of what is told, promises 7 to 9, each on both sides. */
public final class ToldBoundsTest {
    private static final int NONE = Run.NONE, UNKNOWN = Run.UNKNOWN, OUTSIDE = Run.OUTSIDE, STATE = Run.STATE, FULL = Run.FULL;

    private static void spinOfWhich() {
        Run.sentence(7, "UNKNOWN");
        for (int eggs = 2; eggs <= 6; eggs++) {
            String kitchen = eggs + "1:735;" + "111111".substring(0, eggs);
            Run.in(kitchen).due("spin(0, true)", 1).due("spin(" + (eggs - 1) + ", false)", 2);
            for (int egg : new int[] {-1, eggs, 6, Run.LEAST, Run.MOST}) {
                Run.in(kitchen).keeps("spin(" + egg + ", true)", UNKNOWN).keeps("spin(" + egg + ", false)", UNKNOWN);
            }
        }
        Run.sentence(7, "STATE: it is not in the box");
        Run.in("31:735;111").due("stop(0, 2)", 2).keeps("spin(0, true)", STATE).keeps("spin(0, false)", STATE).due("spin(1, true)", 1);
        Run.in("31:735;111").due("crack(0, true)", 2).keeps("spin(0, true)", STATE).due("spin(1, false)", 1);
        Run.in("31:735;111").due("stop(0, 1)", 3).due("spin(0, true)", 1).due("stop(1, 0)", 3).due("spin(1, true)", 2);
        Run.in("31:735;111").then("image()", "crack(0, true)", "restore()").due("spin(0, true)", 1);
    }

    private static void spinThatCannotBe() {
        Run.sentence(7, "STATE: it cannot be (no BOX would have any WEIGHT left)");
        Run.in("21:000;11").keeps("spin(0, true)", STATE).due("spin(0, false)", 1);
        Run.in("21:100;11").due("spin(0, true)", 1).due("fits(1)", 1).keeps("spin(1, true)", STATE).due("spin(1, false)", 2);
        Run.in("21:010;11").due("spin(0, true)", 1).due("fits(2)", 1).keeps("spin(1, true)", STATE).due("spin(1, false)", 2)
            .due("spin(0, true)", 3);
        Run.in("22:090;11").keeps("spin(1, true)", STATE).due("spin(1, false)", 1);
        Run.in("22:190;11").due("spin(1, true)", 1);
        Run.in("20:900;11").keeps("spin(1, true)", STATE).due("spin(1, false)", 1);
        Run.in("20:910;11").due("spin(1, true)", 1);
        Run.in("31:050;111").due("stop(2, 1)", 3).keeps("spin(2, true)", STATE).due("spin(1, true)", 1);
        Run.in("31:500;111").due("stop(2, 0)", 3).keeps("spin(2, true)", STATE).due("spin(1, true)", 1);
        // TURNS are 9 of 10 at most, so that each one may wobble.
        Run.in("21:990;11").times(7, "spin(0, false)").due("spin(1, false)", 8);
        Run.in("21:990;11").due("stop(0, 1)", 2).due("spin(0, false)", 1).due("spin(1, false)", 2);
        Run.sentence(7, "WEIGHT times TURNS of a boiled one, of a raw one (or 10 less that, if it wobbled)");
        Run.in("21:910;11").due("spin(0, true)", 1).dueParts("likely(0, ", 9, 10).due("spin(0, false)", 2).dueParts("likely(0, ", 1, 2);
        Run.in("21:820;11").due("spin(0, false)", 1).dueParts("likely(0, ", 1, 5);
        Run.in("21:070;11").due("spin(0, false)", 1).dueParts("likely(0, ", 10, 13);
    }

    private static void eightSpins() {
        Run.sentence(7, "FULL: 8 SPINS are told");
        for (String call : new String[] {"spin(1, true)", "spin(1, false)"}) {
            Run run = Run.in("31:735;111");
            for (int spins = 1; spins <= 8; spins++) run.due(call, spins);
            run.keeps("spin(1, true)", FULL).keeps("spin(1, false)", FULL).keeps("spin(0, true)", FULL).due("count(6)", 8);
        }
        Run run = Run.in("62:735;111111");
        for (int spins = 1; spins <= 8; spins++) run.due("spin(" + spins % 6 + ", " + (spins % 2 == 0) + ")", spins);
        run.keeps("spin(3, true)", FULL).due("egg(1, 2)", 2).due("egg(3, 2)", 1);
        // Those that were refused are not told.
        Run.in("21:100;11").due("stop(0, 1)", 2).times(9, "spin(1, true)").times(9, "spin(2, true)").times(7, "spin(0, true)")
            .due("spin(0, true)", 8).keeps("spin(0, true)", FULL);
        // Those of an EGG that is gone are told still.
        Run.in("21:735;11").times(7, "spin(0, true)").due("stop(0, 2)", 1).due("spin(1, true)", 8).keeps("spin(1, true)", FULL);
        Run.sentence(7, "8 SPINS are told: an IMAGE, another KITCHEN");
        Run.in("21:735;11").times(7, "spin(0, true)").then("image()").due("spin(0, true)", 8).keeps("spin(0, true)", FULL)
            .due("restore()", 2).due("spin(1, true)", 8).keeps("spin(1, true)", FULL);
        Run.in("21:735;11").times(8, "spin(0, true)").then("image()", "restore()").keeps("spin(0, true)", FULL);
        Run.in("21:735;11").times(8, "spin(0, true)").write("21:735;11").due("kitchen()", 2).due("spin(0, true)", 1);
        Run.sentence(7, "of several refusals UNKNOWN ahead of STATE ahead of FULL");
        Run full = Run.in("31:100;111").due("stop(2, 1)", 3).times(8, "spin(2, true)");
        full.keeps("spin(3, true)", UNKNOWN).keeps("spin(-1, false)", UNKNOWN).keeps("spin(0, true)", STATE).keeps("spin(0, false)", FULL);
        Run.in("31:735;111").times(8, "spin(2, true)").due("stop(2, 2)", 2).keeps("spin(2, true)", STATE).keeps("spin(1, true)", FULL);
        Run.in("31:735;111").times(8, "spin(2, true)").due("crack(2, true)", 2).keeps("spin(2, false)", STATE).keeps("spin(1, true)", FULL);
    }

    private static void stopOfWhich() {
        Run.sentence(8, "UNKNOWN");
        for (int eggs = 2; eggs <= 6; eggs++) {
            String kitchen = eggs + "1:735;" + "111111".substring(0, eggs);
            Run.in(kitchen).due("stop(0, 0)", eggs).due("stop(" + (eggs - 1) + ", 2)", eggs - 1);
            for (int egg : new int[] {-1, eggs, 6, Run.LEAST, Run.MOST}) Run.in(kitchen).keeps("stop(" + egg + ", 2)", UNKNOWN);
        }
        Run.sentence(8, "OUTSIDE: what = 0 raw, 1 boiled, 2 it FELL");
        Run.in("31:735;111").due("stop(0, 0)", 3).due("egg(0, 4)", 0).due("stop(1, 1)", 3).due("egg(1, 4)", 1).due("stop(2, 2)", 2)
            .due("egg(2, 1)", 0);
        for (int what : new int[] {-1, 3, Run.LEAST, Run.MOST}) Run.in("31:735;111").keeps("stop(0, " + what + ")", OUTSIDE);
        Run.sentence(8, "STATE: it is not in the box");
        Run fell = Run.in("31:735;111").due("stop(0, 2)", 2);
        fell.keeps("stop(0, 0)", STATE).keeps("stop(0, 1)", STATE).keeps("stop(0, 2)", STATE).due("stop(1, 2)", 1);
        Run broken = Run.in("31:735;111").due("crack(0, false)", 2);
        broken.keeps("stop(0, 0)", STATE).keeps("stop(0, 1)", STATE).keeps("stop(0, 2)", STATE).due("stop(1, 1)", 2);
        Run.in("31:735;111").due("stop(0, 1)", 3).due("stop(0, 1)", 3).due("stop(0, 2)", 2);
        Run.sentence(8, "how many EGGS are in the box then: down to 0");
        Run.in("21:735;11").due("stop(1, 2)", 1).due("stop(0, 2)", 0).due("count(5)", 0).keeps("stop(0, 2)", STATE);
    }

    private static void stopThatCannotBe() {
        Run.sentence(8, "STATE: it cannot be");
        Run.in("22:735;11").keeps("stop(0, 0)", STATE).due("stop(0, 1)", 2);
        Run.in("20:735;11").keeps("stop(0, 1)", STATE).due("stop(0, 0)", 2);
        Run.in("31:735;111").due("stop(0, 1)", 3).keeps("stop(0, 0)", STATE).keeps("stop(1, 1)", STATE).due("stop(1, 0)", 3);
        Run.in("31:735;111").due("stop(0, 0)", 3).keeps("stop(0, 1)", STATE).due("stop(1, 0)", 3).keeps("stop(2, 0)", STATE)
            .due("stop(2, 1)", 3);
        Run.in("31:735;111").due("crack(0, true)", 2).keeps("stop(1, 1)", STATE).due("stop(1, 0)", 2);
        Run.in("21:500;11").due("spin(0, true)", 1).keeps("stop(0, 0)", STATE).keeps("stop(1, 1)", STATE).due("stop(0, 1)", 2);
        // However seldom, it can be.
        Run.in("21:910;41").times(8, "spin(0, true)").due("stop(0, 0)", 2).dueParts("likely(1, ", 1, 1);
        Run.sentence(8, "it cannot FALL, if FALLS is 0");
        Run.in("21:990;11").keeps("stop(0, 2)", STATE).keeps("stop(1, 2)", STATE).due("stop(1, 0)", 2).keeps("stop(1, 2)", STATE);
        Run.in("21:991;11").due("stop(0, 2)", 1);
        Run.in("21:009;11").due("stop(0, 2)", 1);
        Run.sentence(8, "it FELL: it is gone, nothing else is known by that");
        Run.in("31:735;123").due("stop(2, 2)", 2).due("fits(0)", 3).due("fits(1)", 0).due("fits(2)", 0).dueParts("likely(2, ", 1, 2)
            .dueParts("likely(0, ", 1, 6).due("egg(2, 4)", NONE).due("count(0)", 3).due("likeliest()", 4);
        Run.sentence(8, "of several refusals UNKNOWN ahead of OUTSIDE ahead of STATE");
        Run gone = Run.in("21:730;11").due("crack(0, true)", 1);
        gone.keeps("stop(2, 3)", UNKNOWN).keeps("stop(-1, -1)", UNKNOWN).keeps("stop(0, 3)", OUTSIDE).keeps("stop(0, -1)", OUTSIDE)
            .keeps("stop(0, 2)", STATE).keeps("stop(1, 2)", STATE).keeps("stop(1, 1)", STATE).due("stop(1, 0)", 1);
        Run.fresh().keeps("stop(0, 3)", UNKNOWN);
    }

    private static void crack() {
        Run.sentence(9, "UNKNOWN");
        for (int eggs = 2; eggs <= 6; eggs++) {
            String kitchen = eggs + "1:735;" + "111111".substring(0, eggs);
            Run.in(kitchen).due("crack(0, true)", eggs - 1).due("crack(" + (eggs - 1) + ", false)", eggs - 2);
            for (int egg : new int[] {-1, eggs, 6, Run.LEAST, Run.MOST}) {
                Run.in(kitchen).keeps("crack(" + egg + ", true)", UNKNOWN).keeps("crack(" + egg + ", false)", UNKNOWN);
            }
        }
        Run.sentence(9, "STATE: it is not in the box");
        Run.in("31:735;111").due("crack(0, true)", 2).keeps("crack(0, true)", STATE).keeps("crack(0, false)", STATE);
        Run.in("31:735;111").due("stop(0, 2)", 2).keeps("crack(0, true)", STATE).keeps("crack(0, false)", STATE).due("crack(1, true)", 1);
        Run.in("31:735;111").due("stop(0, 1)", 3).due("crack(0, true)", 2);
        Run.sentence(9, "STATE: it cannot be");
        Run.in("22:735;11").keeps("crack(0, false)", STATE).due("crack(0, true)", 1);
        Run.in("20:735;11").keeps("crack(0, true)", STATE).due("crack(0, false)", 1);
        Run.in("31:735;111").due("stop(0, 1)", 3).keeps("crack(0, false)", STATE).keeps("crack(1, true)", STATE).due("crack(1, false)", 2);
        Run.in("31:735;111").due("crack(0, false)", 2).due("crack(1, false)", 1).keeps("crack(2, false)", STATE).due("crack(2, true)", 0);
        Run.in("21:500;11").due("spin(0, true)", 1).keeps("crack(0, false)", STATE).keeps("crack(1, true)", STATE).due("crack(0, true)", 1);
        Run.in("21:910;41").times(8, "spin(0, true)").due("crack(0, false)", 1).due("fits(1)", 2);
        // FALLS 0 keeps none from being broken.
        Run.in("21:730;11").due("crack(0, true)", 1);
        Run.sentence(9, "BROKEN: it is boiled, or raw, surely; it is gone, too: how many EGGS are in the box then");
        Run.in("31:735;123").due("crack(2, false)", 2).due("egg(2, 1)", 0).due("egg(2, 4)", 0).due("fits(2)", 4).due("fits(0)", 2)
            .due("crack(1, true)", 1).due("fits(1)", 2).due("crack(0, false)", 0).due("count(5)", 0).keeps("crack(0, false)", STATE);
        Run.sentence(9, "of several refusals UNKNOWN ahead of STATE");
        Run.in("22:735;11").due("crack(0, true)", 1).due("crack(1, true)", 0).keeps("crack(2, false)", UNKNOWN).keeps("crack(1, false)", STATE);
    }

    public static void main(String[] args) {
        Watch.begin();
        spinOfWhich();
        spinThatCannotBe();
        eightSpins();
        stopOfWhich();
        stopThatCannotBe();
        crack();
        Run.end();
    }
}
