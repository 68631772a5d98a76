import java.math.BigInteger;

/** The boundaries of what is told back and of all, promises 19 to 24 and the 512 calls of an object, each on both sides. */
public final class WholeBoundsTest {
    private static final int NONE = Run.NONE, UNKNOWN = Run.UNKNOWN, OUTSIDE = Run.OUTSIDE, STATE = Run.STATE, FULL = Run.FULL;

    private static void fits() {
        Run.sentence(19, "OUTSIDE: what = 0 to 2");
        Run.in("31:735;111").due("stop(0, 1)", 3).keeps("fits(0)", 1).keeps("fits(1)", 1).keeps("fits(2)", 6);
        for (int what : new int[] {-1, 3, Run.LEAST, Run.MOST}) Run.in("31:735;111").keeps("fits(" + what + ")", OUTSIDE);
        Run.sentence(19, "STATE: no KITCHEN");
        for (int what = 0; what <= 2; what++) Run.fresh().keeps("fits(" + what + ")", STATE);
        Run.page("21:735;11").keeps("fits(0)", STATE).due("kitchen()", 2).keeps("fits(0)", 2);
        Run.sentence(19, "of several refusals OUTSIDE ahead of STATE");
        for (int what : new int[] {-1, 3, Run.LEAST, Run.MOST}) Run.fresh().keeps("fits(" + what + ")", OUTSIDE);
        Run.sentence(19, "FITS: how many BOXES have WEIGHT above 0: 1 to 20");
        int[][] boxes = {{1, 2, 1}, {1, 3, 3, 1}, {1, 4, 6, 4, 1}, {1, 5, 10, 10, 5, 1}, {1, 6, 15, 20, 15, 6, 1}};
        for (int eggs = 2; eggs <= 6; eggs++) {
            for (int boiled = 0; boiled <= eggs; boiled++) {
                int all = (1 << eggs) - 1;
                Run.in(eggs + "" + boiled + ":735;" + "123412".substring(0, eggs)).due("fits(0)", boxes[eggs - 2][boiled])
                    .due("fits(1)", boiled == eggs ? all : 0).due("fits(2)", boiled == 0 ? all : 0);
            }
        }
        Run.in("31:735;111").due("stop(2, 0)", 3).due("fits(0)", 2).due("stop(1, 0)", 3).due("fits(0)", 1);
        Run.sentence(19, "SURE: in each of these, by what was told, in the box or not");
        Run.in("42:735;1111").due("stop(0, 2)", 3).due("fits(1)", 0).due("crack(1, true)", 2).due("fits(1)", 2).due("crack(2, true)", 1)
            .due("fits(1)", 6).due("fits(2)", 9).due("fits(0)", 1);
        Run.in("31:500;111").due("spin(1, true)", 1).due("fits(1)", 2).due("fits(2)", 5);
        Run.in("31:910;111").times(8, "spin(1, true)").due("fits(1)", 0).due("fits(2)", 0).due("fits(0)", 3);
    }

    private static void morningsWhich() {
        Run.sentence(20, "OUTSIDE: times (1 to 40)");
        Run.in("20:735;11").keeps("mornings(1, 0, 0)", eggsAsMeant("20:735;11", 1, 0, 0)).keeps("mornings(40, 0, 0)", eggsAsMeant("20:735;11", 40, 0, 0));
        for (int times : new int[] {0, 41, -1, Run.LEAST, Run.MOST}) Run.in("20:735;11").keeps("mornings(" + times + ", 0, 0)", OUTSIDE);
        Run.sentence(20, "OUTSIDE: seed (0 at least)");
        Run.in("20:735;11").keeps("mornings(1, 0, 1)", 654583775L).keeps("mornings(1, 2147483647, 1)", seedBehind(3, Run.MOST));
        for (int seed : new int[] {-1, Run.LEAST}) Run.in("20:735;11").keeps("mornings(1, " + seed + ", 1)", OUTSIDE);
        Run.sentence(20, "OUTSIDE: what = 0 how many EGGS, 1 the SEED then");
        for (int what : new int[] {-1, 2, Run.LEAST, Run.MOST}) Run.in("20:735;11").keeps("mornings(1, 0, " + what + ")", OUTSIDE);
        Run.sentence(20, "STATE: no KITCHEN");
        Run.fresh().keeps("mornings(1, 0, 0)", STATE).keeps("mornings(40, 2147483647, 1)", STATE);
        Run.sentence(20, "of several refusals OUTSIDE ahead of STATE");
        Run.fresh().keeps("mornings(0, 0, 0)", OUTSIDE).keeps("mornings(41, 0, 0)", OUTSIDE).keeps("mornings(1, -1, 0)", OUTSIDE)
            .keeps("mornings(1, 0, -1)", OUTSIDE).keeps("mornings(1, 0, 2)", OUTSIDE);
    }

    private static void mornings() {
        Run.sentence(20, "a BOX by a DRAW of how many FIT: also of one alone; each EGG by a DRAW: the SEED then");
        for (int eggs = 2; eggs <= 6; eggs++) {
            Run run = Run.in(eggs + "0:735;" + "111111".substring(0, eggs));
            for (int times : new int[] {1, 2, 40}) {
                for (int seed : new int[] {0, 1, 12345, Run.MOST}) {
                    run.due("mornings(" + times + ", " + seed + ", 1)", seedBehind(times * (eggs + 1), seed));
                }
            }
        }
        Run.sentence(20, "turns, if a DRAW of 10 is below TURNS of a boiled one, of a raw one");
        for (int turns = 0; turns <= 9; turns++) {
            for (String kitchen : new String[] {"60:" + turns + "00;111111", "60:0" + turns + "0;111111", "66:" + turns + "00;111111",
                "66:0" + turns + "0;111111", "63:" + turns + "30;111111", "63:3" + turns + "0;111111"}) {
                int want = eggsAsMeant(kitchen, 40, 77, 0);
                Run.in(kitchen).due("mornings(40, 77, 0)", want);
            }
        }
        Run.in("60:900;111111").due("mornings(40, 5, 0)", 240);
        Run.in("66:090;111111").due("mornings(40, 5, 0)", 0);
        Run.sentence(20, "the least bits first of those that FIT; in the box now or not");
        Run.in("31:821;111").due("stop(0, 0)", 3).due("mornings(40, 9, 0)", eggsAsMeant("31:821;111", 40, 9, 1))
            .due("stop(1, 2)", 2).due("mornings(40, 9, 0)", eggsAsMeant("31:821;111", 40, 9, 1)).due("mornings(40, 9, 1)", seedBehind(160, 9));
        // WEIGHTS do not count here, only whether there is any.
        Run.in("31:821;114").times(8, "spin(2, true)").due("mornings(40, 9, 0)", eggsAsMeant("31:821;111", 40, 9, 0));
    }

    /** Reckoned from the kitchen's text, without the boxes in which one of these eggs is boiled. */
    private static int eggsAsMeant(String kitchen, int times, int first, int raws) {
        int eggs = kitchen.charAt(0) - '0';
        int[] boxes = new int[64];
        int fitting = 0;
        for (int box = 0; box < 1 << eggs; box++) {
            if (Integer.bitCount(box) == kitchen.charAt(1) - '0' && (box & raws) == 0) boxes[fitting++] = box;
        }
        long seed = first;
        int counted = 0;
        for (int time = 0; time < times; time++) {
            seed = nextSeed(seed);
            int box = boxes[(int) ((seed >> 16) % fitting)];
            for (int egg = 0; egg < eggs; egg++) {
                seed = nextSeed(seed);
                boolean boiled = (box & 1 << egg) != 0;
                boolean turned = (seed >> 16) % 10 < kitchen.charAt(boiled ? 3 : 4) - '0';
                if (boiled ? turned : !turned) counted++;
            }
        }
        return counted;
    }

    private static long seedBehind(int draws, int first) {
        long seed = first;
        for (int i = 0; i < draws; i++) seed = nextSeed(seed);
        return seed;
    }

    private static long nextSeed(long seed) {
        return BigInteger.valueOf(1103515245).multiply(BigInteger.valueOf(seed)).add(BigInteger.valueOf(12345))
            .mod(BigInteger.TWO.pow(31)).longValueExact();
    }

    private static void image() {
        Run.sentence(21, "STATE: no KITCHEN");
        Run.fresh().keeps("image()", STATE);
        Run.page("21:735;11").keeps("image()", STATE).due("kitchen()", 2).keeps("restore()", STATE).due("image()", 2).due("restore()", 2);
        Run.sentence(21, "how many EGGS are in the box: all to 0");
        Run.in("61:735;111111").due("image()", 6).due("stop(0, 2)", 5).due("image()", 5);
        Run.in("21:735;11").due("crack(0, true)", 1).due("crack(1, false)", 0).due("image()", 0).keeps("restore()", 0);
        Run.sentence(21, "An IMAGE is kept (one; the latest)");
        Run.in("31:735;111").due("image()", 3).due("crack(0, true)", 2).due("image()", 2).due("crack(1, false)", 1).due("restore()", 2)
            .due("egg(0, 1)", 0).due("egg(0, 4)", 1).due("egg(1, 1)", 1).due("egg(1, 4)", NONE).due("restore()", 2);
        Run.sentence(21, "what is told since is not in the IMAGE");
        Run run = Run.in("31:735;123").then("spin(1, true)", "trier(3)").due("image()", 3);
        run.then("spin(0, false)", "spin(1, true)", "stop(2, 0)", "stop(1, 2)", "crack(0, false)", "trier(4)").due("restore()", 3)
            .due("count(5)", 3).due("count(6)", 1).due("count(7)", 1).due("fits(0)", 3).due("egg(0, 2)", 0).due("egg(1, 2)", 1)
            .due("egg(1, 3)", 1).due("egg(2, 4)", NONE).due("egg(0, 4)", NONE).due("egg(1, 1)", 1).due("about(0, 0)", 3)
            .due("about(1, 0)", UNKNOWN).dueParts("likely(1, ", 7, 13);
    }

    private static void restore() {
        Run.sentence(22, "STATE: none was kept");
        Run.fresh().keeps("restore()", STATE);
        Run.in("21:735;11").then("spin(0, true)", "trier(1)", "stop(1, 2)").keeps("restore()", STATE);
        Run.fresh().then("image()").write("21:735;11").due("kitchen()", 2).keeps("restore()", STATE);
        Run.sentence(22, "STATE: there is another KITCHEN since");
        Run other = Run.in("21:735;11").then("spin(0, true)").due("image()", 2).write("31:735;111").due("kitchen()", 3);
        other.keeps("restore()", STATE).due("count(6)", 0).due("image()", 3).due("restore()", 3);
        Run.in("21:735;11").due("image()", 2).write("21:735;11").due("kitchen()", 2).keeps("restore()", STATE).keeps("restore()", STATE);
        Run.sentence(22, "no other KITCHEN since: a page that is none, letters, a blank one");
        Run.in("21:735;11").due("image()", 2).then("crack(0, true)").write("21:735;1").keeps("kitchen()", STATE).due("restore()", 2)
            .due("count(8)", 8).then("crack(0, true)", "blank()").due("restore()", 2);
        Run.sentence(22, "It goes on from the IMAGE, once more and again");
        Run again = Run.in("31:735;111").then("stop(0, 2)").due("image()", 2);
        for (int i = 0; i < 3; i++) again.due("crack(1, true)", 1).due("spin(2, true)", 1).due("restore()", 2).due("count(6)", 0);
        again.keeps("restore()", 2);
        Run.sentence(22, "TRIERS that come since are gone by restore(); those ahead stay");
        Run.in("21:735;11").due("image()", 2).times(4, "trier(3)").due("restore()", 2).due("count(7)", 0).keeps("about(0, 0)", UNKNOWN)
            .keeps("as(0, 0)", UNKNOWN).due("trier(2)", 0).due("about(0, 0)", 2);
        Run.in("21:735;11").times(4, "trier(3)").due("image()", 2).due("restore()", 2).due("count(7)", 4).keeps("trier(0)", FULL);
        Run.sentence(22, "restore() leaves THE PAGE, the KITCHENS that were read and what worst(), mean() have done");
        Run.in("21:735;11").due("image()", 2).then("worst(1, 0)", "mean(1, 0)", "letter(65)").due("restore()", 2).due("count(8)", 1)
            .due("count(9)", 1).due("count(10)", 2);
    }

    private static void count() {
        Run.sentence(23, "OUTSIDE: what = 0 to 10");
        Run run = Run.in("64:735;123412").then("spin(0, true)", "stop(0, 2)", "trier(0)", "trier(1)", "worst(1, 0)", "worst(2, 0)", "mean(1, 0)")
            .write("1234");
        int[] want = {6, 4, 7, 3, 5, 5, 1, 2, 4, 1, 3};
        for (int what = 0; what <= 10; what++) run.due("count(" + what + ")", want[what]);
        run.keeps("count(0)", 6).keeps("count(10)", 3);
        for (int what : new int[] {-1, 11, Run.LEAST, Run.MOST}) {
            run.keeps("count(" + what + ")", OUTSIDE);
            Run.fresh().keeps("count(" + what + ")", OUTSIDE);
        }
        Run.sentence(23, "without a KITCHEN all 0");
        for (int what = 0; what <= 7; what++) Run.page("64:735;12341").then("kitchen()").due("count(" + what + ")", 0);
        Run.sentence(23, "5 EGGS in the box");
        Run.in("21:735;11").due("count(5)", 2).then("stop(0, 1)").due("count(5)", 2).then("stop(0, 2)").due("count(5)", 1)
            .then("crack(1, false)").due("count(5)", 0).due("count(0)", 2);
        Run.sentence(23, "8 letters of THE PAGE: 0 to 14");
        Run.fresh().due("count(8)", 0).write("1234567890123").due("count(8)", 13).write("4").due("count(8)", 14).write("5").due("count(8)", 14)
            .then("letter(31)").due("count(8)", 14).then("blank()").due("count(8)", 0);
        Run.sentence(23, "9 how often a KITCHEN was read");
        Run.in("21:735;11").due("count(9)", 1).then("kitchen()").due("count(9)", 1).write("21:735;1").then("kitchen()").due("count(9)", 1)
            .write("1").then("kitchen()").due("count(9)", 2);
        Run.sentence(23, "10 how often worst(), mean() were done");
        Run.fresh().then("worst(1, 0)", "mean(1, 0)").due("count(10)", 0).write("21:735;11").then("kitchen()", "worst(1, 0)").due("count(10)", 1)
            .then("mean(6, 0)").due("count(10)", 2).then("worst(0, 0)", "mean(7, 0)", "mean(1, 2)", "worst(1, -1)").due("count(10)", 2)
            .write("21:735;11").then("kitchen()").due("count(10)", 2);
    }

    /** 787, then 31 times it and the next one, without a limit; the last 64 bits of it as a long. */
    private static long digestOf(long... numbers) {
        BigInteger h = BigInteger.valueOf(787);
        for (long number : numbers) h = h.multiply(BigInteger.valueOf(31)).add(BigInteger.valueOf(number));
        return h.longValue();
    }

    private static void digest() {
        Run.sentence(24, "as longs, wrapping; without a KITCHEN neither EGGS nor LIKELIEST nor what fits() tells");
        Run.fresh().keeps("digest()", digestOf(0, 0, 0, 0, 0, 0, 0, 0, 0, 0, 0));
        Run.page(" ").keeps("digest()", digestOf(32, 0, 0, 0, 0, 0, 0, 0, 0, 1, 0, 0));
        Run.page("~!~!~!~!~!~!~ ").keeps("digest()", digestOf(126, 33, 126, 33, 126, 33, 126, 33, 126, 33, 126, 33, 126, 32,
            0, 0, 0, 0, 0, 0, 0, 0, 14, 0, 0));
        Run.sentence(24, "of each EGG, of each TRIER, with a KITCHEN, letters of THE PAGE, what count() tells");
        Run.in("20:735;41").keeps("digest()", digestOf(4, 1, 0, 0, NONE, 0, 1, 1, 1, 0, 0, NONE, 0, 1, 0, 1, 0, 3,
            2, 0, 7, 3, 5, 2, 0, 0, 0, 1, 0));
        Run full = Run.in("21:911;11").times(7, "spin(0, true)").then("spin(1, false)", "trier(0)", "trier(4)", "trier(3)", "trier(1)")
            .then("crack(0, true)", "stop(1, 2)", "worst(1, 0)").write("2");
        full.keeps("digest()", digestOf(1, 0, 7, 7, 1, 1, 1, 1, 0, 1, 0, NONE, 0, 1, 0, NONE, 4, NONE, 3, NONE, 1, NONE, 1, 1, 1, 2, 50,
            2, 1, 9, 1, 1, 0, 8, 4, 1, 1, 1));
        Run.sentence(24, "what likely() tells may be larger than an int");
        Run large = Run.in("63:019;123434").times(8, "spin(0, false)");
        long[] numbers = new long[6 * 7 + 4 + 11];
        int size = 0;
        for (int egg = 0; egg < 6; egg++) {
            for (int what = 0; what <= 4; what++) numbers[size++] = large.call("egg(" + egg + ", " + what + ")");
            for (int part = 0; part <= 1; part++) numbers[size++] = large.call("likely(" + egg + ", " + part + ")");
        }
        numbers[size++] = large.call("likeliest()");
        for (int what = 0; what <= 2; what++) numbers[size++] = large.call("fits(" + what + ")");
        for (int what = 0; what <= 10; what++) numbers[size++] = large.call("count(" + what + ")");
        large.due("digest()", digestOf(numbers)).due("likely(0, 1)", 11808335197L);
    }

    private static void fiveHundredCalls() {
        Run.sentence(24, "An object is used for at most 512 calls: the last one is answered as due");
        Run full = Run.fresh().times(Run.MOST_CALLS - 1, "letter(65)").due("letter(65)", FULL);
        if (full.made() != Run.MOST_CALLS) throw new IllegalStateException();
        Run.fresh().times(Run.MOST_CALLS - 1, "letter(31)").due("letter(65)", 1);
        Run kitchens = Run.fresh();
        for (int read = 1; read <= 51; read++) kitchens.write("21:735;11").due("kitchen()", 2);
        kitchens.due("count(9)", 51).due("fits(0)", 2);
        Run triers = Run.in("21:735;11").due("image()", 2);
        for (int i = 0; i < 250; i++) triers.due("trier(" + i % 5 + ")", 0).due("restore()", 2);
        triers.due("count(7)", 0);
        Run images = Run.in("21:735;11");
        for (int i = 0; i < 167; i++) images.due("image()", 2).due("stop(1, 2)", 1).then("restore()");
    }

    public static void main(String[] args) {
        Watch.begin();
        fits();
        morningsWhich();
        mornings();
        image();
        restore();
        count();
        digest();
        fiveHundredCalls();
        Run.end();
    }
}
