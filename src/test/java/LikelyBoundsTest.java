/** The boundaries of how likely it is, promises 10 to 15, each on both sides. */
public final class LikelyBoundsTest {
    private static final int NONE = Run.NONE, UNKNOWN = Run.UNKNOWN, OUTSIDE = Run.OUTSIDE, STATE = Run.STATE;
    private static final int[] NOT_PARTS = {-1, 2, Run.LEAST, Run.MOST};
    private static final int[] NOT_RAW_NUMBERS = {0, 7, -1, Run.LEAST, Run.MOST};

    private static String alike(int eggs, int boiled) {
        return eggs + "" + boiled + ":735;" + "111111".substring(0, eggs);
    }

    /** No egg has these numbers. */
    private static int[] noEggs(int eggs) {
        return new int[] {-1, eggs, 6, Run.LEAST, Run.MOST};
    }

    private static void likely() {
        Run.sentence(10, "UNKNOWN");
        for (int eggs = 2; eggs <= 6; eggs++) {
            Run.in(alike(eggs, 1)).keeps("likely(0, 1)", eggs).keeps("likely(" + (eggs - 1) + ", 1)", eggs);
            for (int egg : noEggs(eggs)) Run.in(alike(eggs, 1)).keeps("likely(" + egg + ", 0)", UNKNOWN);
        }
        Run.sentence(10, "OUTSIDE: part 0 above, 1 below");
        Run.in("21:735;41").keeps("likely(0, 0)", 4).keeps("likely(0, 1)", 5);
        for (int part : NOT_PARTS) Run.in("21:735;41").keeps("likely(0, " + part + ")", OUTSIDE);
        Run.sentence(10, "of several refusals UNKNOWN ahead of OUTSIDE");
        Run.in("21:735;41").keeps("likely(2, 2)", UNKNOWN).keeps("likely(-1, -1)", UNKNOWN);
        Run.fresh().keeps("likely(0, 2)", UNKNOWN);
        Run.sentence(10, "in lowest terms: never, always");
        Run.in("20:735;12").dueParts("likely(1, ", 0, 1);
        Run.in("22:735;12").dueParts("likely(1, ", 1, 1);
        Run.in("66:735;444444").dueParts("likely(5, ", 1, 1);
        Run.in("21:735;12").due("stop(1, 0)", 2).dueParts("likely(1, ", 0, 1).dueParts("likely(0, ", 1, 1);
        Run.in("42:735;2222").dueParts("likely(3, ", 1, 2);
        Run.sentence(10, "HOW LIKELY, of one that is gone");
        Run.in("21:735;41").due("stop(0, 2)", 1).dueParts("likely(0, ", 4, 5).due("spin(1, true)", 1).dueParts("likely(0, ", 12, 19);
        Run.sentence(10, "WEIGHTS of 8 SPINS");
        // 10^8 by 10^8 and 4 times 9^8.
        Run.in("21:019;14").times(8, "spin(0, false)").dueParts("likely(0, ", 25000000L, 68046721L);
        // The products of any two of 2, 3, 4, 3, 4 sum up to 101, of any three to 314: 101 times 10^8 by that and 314 times 9^8.
        Run.in("63:019;123434").times(8, "spin(0, false)").dueParts("likely(0, ", 5050000000L, 11808335197L)
            .dueParts("risk(0, ", 60825016773L, 118083351970L);
        Run.in("65:000;444444").times(8, "spin(0, false)").dueParts("likely(0, ", 5, 6);
    }

    private static void likeliest() {
        Run.sentence(11, "STATE: no KITCHEN");
        Run.fresh().keeps("likeliest()", STATE);
        Run.page("21:735;11").keeps("likeliest()", STATE).due("kitchen()", 2).keeps("likeliest()", 1);
        Run.sentence(11, "of like ones the least");
        Run.in("21:735;22").keeps("likeliest()", 1);
        Run.in("63:735;111111").keeps("likeliest()", 7);
        Run.in("63:735;111112").keeps("likeliest()", 35);
        Run.in("31:735;122").keeps("likeliest()", 2);
        Run.in("31:824;111").due("spin(0, false)", 1).keeps("likeliest()", 2).due("spin(0, true)", 2).keeps("likeliest()", 1);
        Run.sentence(11, "the BOX of most WEIGHT: none and all are boiled, of WEIGHT above 0");
        Run.in("20:735;12").keeps("likeliest()", 0);
        Run.in("66:735;123412").keeps("likeliest()", 63);
        Run.in("21:735;14").keeps("likeliest()", 2).due("stop(1, 0)", 2).keeps("likeliest()", 1);
        Run.in("21:735;14").due("stop(1, 2)", 1).keeps("likeliest()", 2).due("stop(0, 2)", 0).keeps("likeliest()", 2);
    }

    private static void turning() {
        Run.sentence(12, "UNKNOWN");
        for (int eggs = 2; eggs <= 6; eggs++) {
            Run.in(alike(eggs, eggs)).keeps("turning(0, 9)", 0).keeps("turning(" + (eggs - 1) + ", 9)", 0);
            for (int egg : noEggs(eggs)) Run.in(alike(eggs, eggs)).keeps("turning(" + egg + ", 9)", UNKNOWN);
        }
        Run.sentence(12, "OUTSIDE: tenths (1 to 9)");
        Run.in("22:735;11").keeps("turning(0, 1)", 0).keeps("turning(0, 9)", 0);
        for (int tenths : new int[] {0, 10, -1, Run.LEAST, Run.MOST}) Run.in("22:735;11").keeps("turning(0, " + tenths + ")", OUTSIDE);
        Run.sentence(12, "of several refusals UNKNOWN ahead of OUTSIDE");
        Run.in("22:735;11").keeps("turning(2, 0)", UNKNOWN).keeps("turning(-1, 10)", UNKNOWN);
        Run.fresh().keeps("turning(0, 0)", UNKNOWN);
        Run.sentence(12, "as likely as so many TENTHS, or more");
        Run.in("61:550;111133").due("turning(0, 1)", 0).due("turning(0, 2)", NONE);
        Run.in("61:550;111134").due("turning(0, 1)", NONE);
        Run.in("21:740;11").due("turning(0, 5)", 0).due("turning(0, 6)", 1);
        Run.in("21:910;11").due("turning(0, 9)", 1);
        Run.in("51:420;11111").due("turning(0, 8)", 4);
        Run.sentence(12, "by how few SPINS more (0 to 5); none");
        // The WEIGHT is doubled each time: 32 by 35 behind the fifth, 32 by 36 where there is one EGG more.
        Run.in("41:420;1111").due("turning(0, 1)", 0).due("turning(0, 4)", 1).due("turning(0, 9)", 5);
        Run.in("51:420;11111").due("turning(0, 9)", NONE).due("spin(0, true)", 1).due("turning(0, 9)", 5);
        Run.in("21:370;11").due("turning(0, 5)", 0).due("turning(0, 6)", NONE);
        Run.sentence(12, "SPINS more: though 8 are told");
        Run.in("41:420;1111").times(8, "spin(1, false)").due("turning(0, 1)", 0).due("turning(0, 9)", 5).due("count(6)", 8);
        Run.sentence(12, "in the box or not");
        Run.in("41:424;1111").due("stop(0, 2)", 3).due("turning(0, 9)", 5).due("crack(1, true)", 2).due("turning(1, 9)", 0)
            .due("turning(0, 1)", NONE).due("turning(2, 1)", NONE);
        Run.sentence(12, "that which cannot be does not count");
        Run.in("21:000;11").due("turning(0, 5)", 0).due("turning(0, 6)", NONE);
        Run.in("21:090;11").due("turning(0, 5)", 0).due("turning(0, 6)", NONE);
        Run.in("21:100;14").due("turning(0, 2)", 0).due("turning(0, 3)", 1).due("turning(0, 9)", 1);
        Run.in("20:500;11").due("turning(0, 1)", NONE);
        Run.in("20:550;11").due("turning(0, 1)", NONE);
        Run.in("22:050;11").due("turning(0, 9)", 0);
        Run.sentence(12, "TURNING, by WEIGHTS of 8 SPINS");
        Run.in("65:990;444444").times(8, "spin(0, true)").due("turning(0, 8)", 0).due("turning(0, 9)", NONE);
    }

    private static void breakingWhat() {
        for (String call : new String[] {"worst", "mean"}) {
            int promise = call.equals("worst") ? 13 : 14;
            Run.sentence(promise, "OUTSIDE: raw (1 to 6)");
            Run.in("60:735;111111").due(call + "(1, 0)", 1).due(call + "(6, 0)", 6);
            for (int raw : NOT_RAW_NUMBERS) Run.in("60:735;111111").keeps(call + "(" + raw + ", 0)", OUTSIDE).due("count(10)", 0);
            Run.sentence(promise, "OUTSIDE: what, part (0, 1)");
            Run.in("60:735;111111").due(call + "(6, 0)", 6).due(call + "(6, 1)", call.equals("worst") ? 0 : 1);
            for (int part : NOT_PARTS) Run.in("60:735;111111").keeps(call + "(1, " + part + ")", OUTSIDE).due("count(10)", 0);
            Run.sentence(promise, "STATE: no KITCHEN");
            Run.fresh().keeps(call + "(1, 0)", STATE).keeps(call + "(6, 1)", STATE).due("count(10)", 0);
            Run.page("21:735;11").keeps(call + "(1, 0)", STATE).due("kitchen()", 2).due(call + "(1, 1)", call.equals("worst") ? 0 : 2);
            Run.sentence(promise, "of several refusals OUTSIDE ahead of STATE");
            for (int raw : NOT_RAW_NUMBERS) Run.fresh().keeps(call + "(" + raw + ", 0)", OUTSIDE);
            for (int part : NOT_PARTS) Run.fresh().keeps(call + "(1, " + part + ")", OUTSIDE);
            Run.in("21:735;11").times(60, call + "(1, 0)").keeps(call + "(0, 0)", OUTSIDE).keeps(call + "(7, 1)", OUTSIDE)
                .keeps(call + "(1, -1)", OUTSIDE).keeps(call + "(6, 2)", OUTSIDE).keeps(call + "(1, 0)", STATE);
        }
    }

    private static void sixtyTimes() {
        Run.sentence(13, "STATE: worst(), mean() were done 60 times together");
        Run.in("21:735;12").times(59, "worst(1, 0)").due("worst(1, 0)", 2).keeps("worst(1, 0)", STATE).keeps("mean(1, 0)", STATE)
            .due("count(10)", 60);
        Run.in("21:735;12").times(59, "worst(1, 1)").due("mean(1, 0)", 4).keeps("mean(1, 1)", STATE).keeps("worst(1, 1)", STATE);
        Run.in("21:735;12").times(30, "worst(1, 0)").times(29, "mean(1, 0)").due("worst(1, 1)", 0).keeps("worst(1, 1)", STATE);
        Run.sentence(14, "STATE, as worst()");
        Run.in("21:735;12").times(59, "mean(1, 0)").due("mean(1, 1)", 3).keeps("mean(1, 1)", STATE).keeps("worst(1, 0)", STATE)
            .due("count(10)", 60);
        Run.in("21:735;12").times(30, "worst(1, 0)").times(29, "mean(1, 0)").due("mean(1, 1)", 3).keeps("mean(1, 1)", STATE);
        Run.sentence(13, "were done: those that answer NONE are, refused ones are not");
        Run.in("22:735;12").times(60, "worst(1, 0)").due("count(10)", 60).keeps("worst(1, 0)", STATE);
        Run.in("22:735;12").times(60, "mean(1, 0)").due("count(10)", 60).keeps("mean(1, 1)", STATE);
        Run refused = Run.fresh().times(70, "worst(1, 0)").times(70, "mean(1, 0)").write("21:735;12").due("kitchen()", 2);
        refused.times(30, "worst(0, 0)").times(30, "mean(1, 2)").times(59, "worst(1, 0)").due("mean(1, 1)", 3).due("mean(1, 1)", STATE);
        Run.sentence(13, "60 times, by all KITCHENS; restore() leaves it so");
        Run.in("21:735;12").then("image()").times(60, "worst(1, 0)").due("restore()", 2).keeps("worst(1, 0)", STATE).due("count(10)", 60)
            .write("21:735;12").due("kitchen()", 2).keeps("worst(1, 0)", STATE).keeps("mean(1, 0)", STATE).due("count(10)", 60);
    }

    private static void breaking() {
        Run.sentence(13, "by how few at WORST; none, if there are not so many raw ones in the box");
        for (int eggs = 2; eggs <= 6; eggs++) {
            for (int boiled = 0; boiled <= eggs; boiled++) {
                Run run = Run.in(alike(eggs, boiled));
                for (int raw = 1; raw <= 6; raw++) {
                    boolean none = raw > eggs - boiled;
                    run.due("worst(" + raw + ", 0)", none ? NONE : boiled + raw).due("worst(" + raw + ", 1)", none ? NONE : 0);
                }
            }
        }
        Run.sentence(14, "BREAKING on the MEAN, in lowest terms (none: NONE, 0)");
        for (int eggs = 2; eggs <= 6; eggs++) {
            for (int boiled = 0; boiled <= eggs; boiled++) {
                Run run = Run.in(alike(eggs, boiled));
                for (int raw = 1; raw <= 6; raw++) dueAlike(run, raw, eggs, eggs - boiled);
            }
        }
        Run.sentence(13, "of those in the box");
        Run.in("30:735;111").due("worst(3, 0)", 3).due("stop(0, 2)", 2).due("worst(3, 0)", NONE).due("worst(2, 0)", 2).due("worst(2, 1)", 1)
            .due("crack(2, false)", 1).due("worst(2, 0)", NONE).due("worst(1, 0)", 1).due("worst(1, 1)", 1).due("crack(1, false)", 0)
            .due("worst(1, 0)", NONE).due("worst(1, 1)", NONE).dueParts("mean(1, ", NONE, 0);
        // What was reckoned for six does not come into what is asked of three, nor of six again.
        Run.in("63:735;111111").due("image()", 6).due("worst(1, 0)", 4).dueParts("mean(1, ", 7, 4)
            .then("crack(3, false)", "crack(4, false)", "crack(5, true)").due("worst(1, 0)", 3).dueParts("mean(1, ", 2, 1)
            .due("worst(2, 0)", NONE).due("restore()", 6).dueParts("mean(1, ", 7, 4).due("worst(3, 0)", 6).dueParts("mean(3, ", 21, 4);
        Run.sentence(13, "in some BOX of WEIGHT above 0");
        Run.in("31:735;111").due("stop(0, 2)", 2).due("worst(1, 0)", 2).due("worst(2, 0)", NONE).dueParts("mean(2, ", NONE, 0);
        Run.in("31:735;111").due("stop(0, 1)", 3).due("stop(0, 2)", 2).due("worst(2, 0)", 2).due("worst(2, 1)", 1).dueParts("mean(2, ", 2, 1);
        Run.in("31:105;111").due("spin(0, true)", 1).due("worst(2, 0)", 2).due("worst(2, 1)", 1).due("worst(3, 0)", NONE);
        Run.sentence(13, "FIRST so that it is as few on the MEAN: of like ones the least");
        Run.in("31:735;122").due("worst(1, 1)", 0);
        Run.in("31:735;212").due("worst(1, 1)", 1);
        Run.in("31:735;221").due("worst(1, 1)", 2);
        Run.in("31:735;211").due("worst(1, 1)", 1);
        Run.in("31:735;211").due("stop(1, 2)", 2).due("worst(1, 1)", 2);
        Run.in("42:735;1111").due("stop(3, 0)", 4).due("worst(1, 1)", 3).due("worst(1, 0)", 1).due("stop(2, 0)", 4).due("worst(1, 1)", 2);
        Run.sentence(14, "by WEIGHTS of 8 SPINS");
        Run.in("21:010;14").times(8, "spin(0, false)").dueParts("mean(1, ", 93046721L, 68046721L).due("worst(1, 1)", 0);
    }

    /** Where all are alike, each raw one takes (EGGS + 1) by (raw ones + 1). */
    private static void dueAlike(Run run, int raw, int eggs, int raws) {
        if (raw > raws) {
            run.dueParts("mean(" + raw + ", ", NONE, 0);
            return;
        }
        int above = raw * (eggs + 1);
        int below = raws + 1;
        for (int by = below; by > 1; by--) {
            if (above % by == 0 && below % by == 0) {
                above /= by;
                below /= by;
            }
        }
        run.dueParts("mean(" + raw + ", ", above, below);
    }

    private static void risk() {
        Run.sentence(15, "UNKNOWN");
        for (int eggs = 2; eggs <= 6; eggs++) {
            Run.in(alike(eggs, 0)).keeps("risk(0, 1)", 2).keeps("risk(" + (eggs - 1) + ", 1)", 2);
            for (int egg : noEggs(eggs)) Run.in(alike(eggs, 0)).keeps("risk(" + egg + ", 0)", UNKNOWN);
        }
        Run.sentence(15, "OUTSIDE: part 0 above, 1 below");
        Run.in("21:737;41").keeps("risk(0, 0)", 7).keeps("risk(0, 1)", 50);
        for (int part : NOT_PARTS) Run.in("21:737;41").keeps("risk(0, " + part + ")", OUTSIDE);
        Run.sentence(15, "STATE: it is not in the box");
        Run.in("31:737;111").due("stop(0, 2)", 2).keeps("risk(0, 0)", STATE).keeps("risk(0, 1)", STATE).keeps("risk(1, 0)", 7);
        Run.in("31:737;111").due("crack(0, false)", 2).keeps("risk(0, 0)", STATE).keeps("risk(0, 1)", STATE).keeps("risk(1, 1)", 20);
        Run.in("31:737;111").due("stop(0, 0)", 3).dueParts("risk(0, ", 7, 10).due("stop(1, 1)", 3).dueParts("risk(1, ", 0, 1);
        Run.sentence(15, "of several refusals UNKNOWN ahead of OUTSIDE ahead of STATE");
        Run.in("31:737;111").due("stop(0, 2)", 2).keeps("risk(3, 2)", UNKNOWN).keeps("risk(-1, -1)", UNKNOWN).keeps("risk(0, 2)", OUTSIDE)
            .keeps("risk(0, -1)", OUTSIDE).keeps("risk(0, 0)", STATE);
        Run.fresh().keeps("risk(0, 2)", UNKNOWN);
        Run.sentence(15, "in lowest terms: never, FALLS 0 to 9");
        Run.in("20:730;11").dueParts("risk(0, ", 0, 1);
        Run.in("22:739;11").dueParts("risk(0, ", 0, 1);
        Run.in("20:731;11").dueParts("risk(0, ", 1, 10);
        Run.in("20:735;11").dueParts("risk(0, ", 1, 2);
        Run.in("20:739;11").dueParts("risk(0, ", 9, 10);
    }

    public static void main(String[] args) {
        Watch.begin();
        likely();
        likeliest();
        turning();
        breakingWhat();
        sixtyTimes();
        breaking();
        risk();
        Run.end();
    }
}
