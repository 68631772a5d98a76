/** For each promise of the document: ordinary inputs, the edges that it names, wrong inputs, and what comes first of several refusals. */
public final class PromisesTest {
    private static final int NONE = BoiledEggs.NONE, UNKNOWN = BoiledEggs.UNKNOWN, OUTSIDE = BoiledEggs.OUTSIDE;
    private static final int STATE = BoiledEggs.STATE, FULL = BoiledEggs.FULL;
    private static final int LEAST = Integer.MIN_VALUE, MOST = Integer.MAX_VALUE;
    private static int wrong = 0;
    private static int promise = 0;

    private static void due(String call, long got, long want) {
        if (got != want) {
            wrong++;
            System.out.println("promise " + promise + ": " + call + " answered " + got + ", due is " + want);
        }
    }

    private static void write(BoiledEggs x, String text) {
        for (int i = 0; i < text.length(); i++) x.letter(text.charAt(i));
    }

    private static BoiledEggs in(String kitchen) {
        BoiledEggs x = new BoiledEggs();
        write(x, kitchen);
        due("kitchen() of " + kitchen, x.kitchen(), kitchen.charAt(0) - '0');
        return x;
    }

    private static void dueLikely(BoiledEggs x, int egg, long above, long below) {
        due("likely(" + egg + ", 0)", x.likely(egg, 0), above);
        due("likely(" + egg + ", 1)", x.likely(egg, 1), below);
    }

    private static void dueMean(BoiledEggs x, int raw, long above, long below) {
        due("mean(" + raw + ", 0)", x.mean(raw, 0), above);
        due("mean(" + raw + ", 1)", x.mean(raw, 1), below);
    }

    private static void dueRisk(BoiledEggs x, int egg, long above, long below) {
        due("risk(" + egg + ", 0)", x.risk(egg, 0), above);
        due("risk(" + egg + ", 1)", x.risk(egg, 1), below);
    }

    private static void dueFault(String page, int place) {
        BoiledEggs x = new BoiledEggs();
        write(x, page);
        due("fault() of " + page, x.fault(), place);
        due("count(8) behind it", x.count(8), page.length());
    }

    private static void dueNoKitchen(String page) {
        BoiledEggs x = new BoiledEggs();
        write(x, page);
        long before = x.digest();
        due("kitchen() of " + page, x.kitchen(), STATE);
        due("digest() behind the refused " + page, x.digest(), before);
    }

    private static void aNewObject() {
        BoiledEggs x = new BoiledEggs();
        for (int what = 0; what <= 10; what++) due("count(" + what + ")", x.count(what), 0);
        due("egg(0, 0)", x.egg(0, 0), UNKNOWN);
        due("egg(0, 9)", x.egg(0, 9), UNKNOWN);
        due("spin(0, true)", x.spin(0, true), UNKNOWN);
        due("stop(0, 5)", x.stop(0, 5), UNKNOWN);
        due("crack(0, true)", x.crack(0, true), UNKNOWN);
        due("likely(0, 0)", x.likely(0, 0), UNKNOWN);
        due("turning(0, 5)", x.turning(0, 5), UNKNOWN);
        due("risk(0, 0)", x.risk(0, 0), UNKNOWN);
        due("about(0, 0)", x.about(0, 0), UNKNOWN);
        due("as(0, 0)", x.as(0, 0), UNKNOWN);
        due("likeliest()", x.likeliest(), STATE);
        due("worst(1, 0)", x.worst(1, 0), STATE);
        due("mean(1, 0)", x.mean(1, 0), STATE);
        due("trier(0)", x.trier(0), STATE);
        due("fits(0)", x.fits(0), STATE);
        due("mornings(1, 0, 0)", x.mornings(1, 0, 0), STATE);
        due("image()", x.image(), STATE);
        due("restore()", x.restore(), STATE);
        due("kitchen()", x.kitchen(), STATE);
        due("fault()", x.fault(), 0);
    }

    private static void letter() {
        BoiledEggs x = new BoiledEggs();
        for (int code : new int[] {31, 127, 0, -1, LEAST, MOST}) due("letter(" + code + ")", x.letter(code), OUTSIDE);
        due("letter(32)", x.letter(32), 1);
        due("letter(126)", x.letter(126), 2);
        for (int size = 3; size <= 14; size++) due("letter(65)", x.letter(65), size);
        due("letter(65)", x.letter(65), FULL);
        due("letter(31)", x.letter(31), OUTSIDE);
        due("count(8)", x.count(8), 14);
    }

    private static void blank() {
        BoiledEggs x = new BoiledEggs();
        due("blank()", x.blank(), 0);
        write(x, "21:000;11");
        due("blank()", x.blank(), 9);
        due("blank()", x.blank(), 0);
        due("kitchen()", x.kitchen(), STATE);
        write(x, "12345678901234");
        due("blank()", x.blank(), 14);
        due("letter(65)", x.letter(65), 1);
    }

    private static void fault() {
        dueFault("", 0);
        dueFault("1", 0);
        dueFault("7", 0);
        dueFault(" ", 0);
        dueFault("2", 1);
        dueFault("6", 1);
        dueFault("23", 1);
        dueFault("67", 1);
        dueFault("66", 2);
        dueFault("20", 2);
        dueFault("2/", 1);
        dueFault("22;", 2);
        dueFault("22:", 3);
        dueFault("22:/", 3);
        dueFault("22::", 3);
        dueFault("22:090", 6);
        dueFault("22:09a", 5);
        dueFault("22:0x0", 4);
        dueFault("22:090:", 6);
        dueFault("22:090;", 7);
        dueFault("22:090;0", 7);
        dueFault("22:090;5", 7);
        dueFault("22:090;14", 9);
        dueFault("22:090;141", 9);
        dueFault("66:999;444444", 13);
        dueFault("66:999;4444441", 13);
        dueFault("9234567890123", 0);
    }

    private static void kitchen() {
        for (String page : new String[] {"", "2", "21:000;", "21:000;1", "21:000;111", "21:000;15", "61:000;11111",
            "61:000;1111111", "11:000;1", "71:000;111111"}) dueNoKitchen(page);
        BoiledEggs x = in("32:473;241");
        due("count(8)", x.count(8), 0);
        due("count(9)", x.count(9), 1);
        x.trier(3);
        x.spin(1, true);
        x.crack(0, true);
        x.worst(1, 0);
        dueNoKitchenIn(x, "3");
        write(x, "20:000;11");
        due("kitchen()", x.kitchen(), 2);
        due("count(9)", x.count(9), 2);
        due("TRIERS are gone", x.count(7), 0);
        due("about(0, 0)", x.about(0, 0), UNKNOWN);
        due("SPINS are gone", x.count(6), 0);
        due("EGGS are in the box", x.count(5), 2);
        due("egg(0, 4)", x.egg(0, 4), NONE);
        due("egg(1, 2)", x.egg(1, 2), 0);
        due("egg(2, 0)", x.egg(2, 0), UNKNOWN);
        due("count(10)", x.count(10), 1);
    }

    private static void dueNoKitchenIn(BoiledEggs x, String page) {
        write(x, page);
        long before = x.digest();
        due("kitchen() of " + page, x.kitchen(), STATE);
        due("digest() behind the refused " + page, x.digest(), before);
        x.blank();
    }

    private static void egg() {
        BoiledEggs x = in("42:735;1234");
        for (int egg = 0; egg < 4; egg++) {
            due("egg(" + egg + ", 0)", x.egg(egg, 0), egg + 1);
            due("egg(" + egg + ", 1)", x.egg(egg, 1), 1);
            due("egg(" + egg + ", 4)", x.egg(egg, 4), NONE);
        }
        x.spin(1, true);
        x.spin(1, false);
        x.spin(1, true);
        due("egg(1, 2)", x.egg(1, 2), 3);
        due("egg(1, 3)", x.egg(1, 3), 2);
        x.stop(1, 0);
        due("egg(1, 4)", x.egg(1, 4), 0);
        due("egg(1, 1)", x.egg(1, 1), 1);
        x.stop(1, 2);
        due("egg(1, 1) fell", x.egg(1, 1), 0);
        due("egg(1, 4) fell", x.egg(1, 4), 0);
        x.stop(0, 2);
        due("egg(0, 4) fell, not known", x.egg(0, 4), NONE);
        x.crack(3, true);
        due("egg(3, 4)", x.egg(3, 4), 1);
        due("egg(3, 1)", x.egg(3, 1), 0);
        due("egg(2, 4) not told itself", x.egg(2, 4), NONE);
        for (int egg : new int[] {-1, 4, LEAST, MOST}) due("egg(" + egg + ", 9)", x.egg(egg, 9), UNKNOWN);
        for (int what : new int[] {-1, 5, LEAST, MOST}) due("egg(0, " + what + ")", x.egg(0, what), OUTSIDE);
    }

    private static void spin() {
        BoiledEggs x = in("31:821;211");
        due("spin(0, true)", x.spin(0, true), 1);
        dueLikely(x, 0, 4, 5);
        due("spin(0, false)", x.spin(0, false), 2);
        dueLikely(x, 0, 1, 2);
        for (int egg : new int[] {-1, 3, LEAST, MOST}) due("spin(" + egg + ", true)", x.spin(egg, true), UNKNOWN);
        x.stop(2, 2);
        due("spin(2, true), not in the box", x.spin(2, true), STATE);
        for (int spins = 3; spins <= 8; spins++) due("spin(1, true)", x.spin(1, true), spins);
        long before = x.digest();
        due("spin(1, true)", x.spin(1, true), FULL);
        due("spin(2, true), not in the box, and full", x.spin(2, true), STATE);
        due("spin(3, true), and full", x.spin(3, true), UNKNOWN);
        due("digest()", x.digest(), before);
        BoiledEggs y = in("21:500;11");
        due("spin(0, true)", y.spin(0, true), 1);
        before = y.digest();
        due("spin(1, true), the other one turned", y.spin(1, true), STATE);
        due("digest()", y.digest(), before);
        for (int spins = 2; spins <= 8; spins++) due("spin(1, false)", y.spin(1, false), spins);
        due("spin(1, true), it cannot be, and full", y.spin(1, true), STATE);
        due("spin(1, false)", y.spin(1, false), FULL);
        BoiledEggs z = in("22:000;11");
        due("spin(0, true), none turns", z.spin(0, true), STATE);
        due("spin(0, false)", z.spin(0, false), 1);
    }

    private static void stop() {
        BoiledEggs x = in("31:823;211");
        due("stop(0, 0)", x.stop(0, 0), 3);
        dueLikely(x, 0, 0, 1);
        dueLikely(x, 1, 1, 2);
        due("stop(0, 0) once more", x.stop(0, 0), 3);
        long before = x.digest();
        due("stop(0, 1)", x.stop(0, 1), STATE);
        for (int egg : new int[] {-1, 3, LEAST, MOST}) due("stop(" + egg + ", 9)", x.stop(egg, 9), UNKNOWN);
        for (int what : new int[] {-1, 3, LEAST, MOST}) due("stop(0, " + what + ")", x.stop(0, what), OUTSIDE);
        due("digest()", x.digest(), before);
        due("stop(1, 2)", x.stop(1, 2), 2);
        dueLikely(x, 1, 1, 2);
        due("stop(1, 1), gone", x.stop(1, 1), STATE);
        due("stop(1, 2), gone", x.stop(1, 2), STATE);
        due("stop(1, 3), gone", x.stop(1, 3), OUTSIDE);
        due("stop(2, 1)", x.stop(2, 1), 2);
        dueLikely(x, 1, 0, 1);
        BoiledEggs y = in("21:820;11");
        before = y.digest();
        due("stop(0, 2), none falls", y.stop(0, 2), STATE);
        due("digest()", y.digest(), before);
        due("stop(0, 1)", y.stop(0, 1), 2);
        due("stop(1, 1), one alone is", y.stop(1, 1), STATE);
        due("stop(0, 0), it is boiled", y.stop(0, 0), STATE);
        due("egg(0, 4)", y.egg(0, 4), 1);
    }

    private static void crack() {
        BoiledEggs x = in("31:823;211");
        due("crack(0, false)", x.crack(0, false), 2);
        due("egg(0, 1)", x.egg(0, 1), 0);
        due("egg(0, 4)", x.egg(0, 4), 0);
        dueLikely(x, 1, 1, 2);
        due("crack(0, false), broken", x.crack(0, false), STATE);
        due("crack(1, true)", x.crack(1, true), 1);
        long before = x.digest();
        due("crack(2, true), one alone is", x.crack(2, true), STATE);
        for (int egg : new int[] {-1, 3, LEAST, MOST}) due("crack(" + egg + ", true)", x.crack(egg, true), UNKNOWN);
        due("digest()", x.digest(), before);
        due("crack(2, false)", x.crack(2, false), 0);
        BoiledEggs y = in("31:823;211");
        y.stop(1, 2);
        due("crack(1, true), fell", y.crack(1, true), STATE);
        due("crack(0, false), all are boiled", in("22:823;11").crack(0, false), STATE);
        due("crack(0, true), none is boiled", in("20:823;11").crack(0, true), STATE);
    }

    private static void likely() {
        BoiledEggs x = in("42:735;1234");
        // Boxes of two: 2, 3, 4, 6, 8, 12, in all 35.
        dueLikely(x, 0, 9, 35);
        dueLikely(x, 1, 16, 35);
        dueLikely(x, 2, 3, 5);
        dueLikely(x, 3, 24, 35);
        x.stop(3, 2);
        dueLikely(x, 3, 24, 35);
        for (int egg : new int[] {-1, 4, LEAST, MOST}) due("likely(" + egg + ", 5)", x.likely(egg, 5), UNKNOWN);
        for (int part : new int[] {-1, 2, LEAST, MOST}) due("likely(0, " + part + ")", x.likely(0, part), OUTSIDE);
        dueLikely(in("20:000;14"), 1, 0, 1);
        dueLikely(in("22:000;14"), 1, 1, 1);
    }

    private static void likeliest() {
        due("likeliest()", in("42:735;1234").likeliest(), 12);
        due("likeliest() of like ones", in("63:735;222222").likeliest(), 7);
        due("likeliest(), none boiled", in("20:735;22").likeliest(), 0);
        due("likeliest(), all boiled", in("66:735;222222").likeliest(), 63);
        BoiledEggs x = in("31:821;211");
        x.spin(1, true);
        due("likeliest()", x.likeliest(), 2);
        x.crack(1, false);
        due("likeliest()", x.likeliest(), 1);
    }

    private static void turning() {
        BoiledEggs x = in("31:821;211");
        due("turning(0, 5)", x.turning(0, 5), 0);
        due("turning(0, 6)", x.turning(0, 6), 1);
        due("turning(0, 8)", x.turning(0, 8), 1);
        due("turning(0, 9)", x.turning(0, 9), 2);
        due("turning(1, 9)", x.turning(1, 9), 3);
        for (int egg : new int[] {-1, 3, LEAST, MOST}) due("turning(" + egg + ", 0)", x.turning(egg, 0), UNKNOWN);
        for (int tenths : new int[] {0, 10, -1, LEAST, MOST}) due("turning(0, " + tenths + ")", x.turning(0, tenths), OUTSIDE);
        x.stop(1, 2);
        due("turning(1, 9), fell", x.turning(1, 9), 3);
        x.stop(1, 2);
        x.crack(0, true);
        due("turning(1, 1), the other one is", x.turning(1, 1), NONE);
        due("turning(0, 9), it is", x.turning(0, 9), 0);
        // Its WEIGHT is doubled each time: 32 by 35 after five, 32 by 36 with one EGG more.
        due("turning(0, 9), five", in("41:420;1111").turning(0, 9), 5);
        due("turning(0, 8), just so likely", in("51:420;11111").turning(0, 8), 4);
        due("turning(0, 9), six", in("51:420;11111").turning(0, 9), NONE);
        due("turning(0, 6), a raw one turns more", in("21:280;11").turning(0, 6), NONE);
        due("turning(0, 6), none turns", in("21:000;11").turning(0, 6), NONE);
        due("turning(0, 5), none turns", in("21:000;11").turning(0, 5), 0);
        due("turning(0, 9), a raw one never turns", in("21:100;11").turning(0, 9), 1);
    }

    private static void worst() {
        BoiledEggs x = in("63:739;123432");
        due("worst(1, 0)", x.worst(1, 0), 4);
        due("worst(2, 0)", x.worst(2, 0), 5);
        due("worst(3, 0)", x.worst(3, 0), 6);
        due("worst(4, 0)", x.worst(4, 0), NONE);
        due("worst(4, 1)", x.worst(4, 1), NONE);
        due("worst(6, 1)", x.worst(6, 1), NONE);
        due("worst(1, 1)", x.worst(1, 1), 0);
        x.crack(0, false);
        due("worst(3, 0), one is gone", x.worst(3, 0), NONE);
        due("worst(2, 0), one is gone", x.worst(2, 0), 5);
        BoiledEggs y = in("31:821;211");
        y.spin(1, true);
        due("worst(1, 1), of like ones the least", y.worst(1, 1), 2);
        y.stop(2, 2);
        due("worst(1, 0)", y.worst(1, 0), 2);
        due("worst(2, 0)", y.worst(2, 0), NONE);
        for (int raw : new int[] {0, 7, -1, LEAST, MOST}) due("worst(" + raw + ", 0)", y.worst(raw, 0), OUTSIDE);
        for (int what : new int[] {-1, 2, LEAST, MOST}) due("worst(1, " + what + ")", y.worst(1, what), OUTSIDE);
        due("worst(0, 0) without a KITCHEN", new BoiledEggs().worst(0, 0), OUTSIDE);
        due("worst(1, 2) without a KITCHEN", new BoiledEggs().worst(1, 2), OUTSIDE);
        due("worst(1, 0), known raw", worstWhenKnown(), 1);
        BoiledEggs z = in("60:000;111111");
        due("worst(6, 0)", z.worst(6, 0), 6);
        due("worst(6, 1)", z.worst(6, 1), 0);
        sixty();
    }

    private static int worstWhenKnown() {
        BoiledEggs x = in("42:739;1111");
        x.stop(2, 0);
        due("worst(1, 1), known raw", x.worst(1, 1), 2);
        return x.worst(1, 0);
    }

    private static void sixty() {
        BoiledEggs x = in("31:821;211");
        for (int i = 0; i < 30; i++) {
            due("worst(3, 0)", x.worst(3, 0), NONE);
            due("mean(1, 1)", x.mean(1, 1) > 0 ? 1 : 0, 1);
            due("worst(9, 0)", x.worst(9, 0), OUTSIDE);
            due("mean(1, 9)", x.mean(1, 9), OUTSIDE);
        }
        due("count(10)", x.count(10), 60);
        due("worst(1, 0), the 61st", x.worst(1, 0), STATE);
        due("mean(1, 0), the 61st", x.mean(1, 0), STATE);
        due("worst(0, 0), the 61st", x.worst(0, 0), OUTSIDE);
        due("mean(1, 2), the 61st", x.mean(1, 2), OUTSIDE);
        write(x, "21:000;11");
        x.kitchen();
        due("worst(1, 0), in another KITCHEN", x.worst(1, 0), STATE);
        due("count(10)", x.count(10), 60);
    }

    private static void mean() {
        dueMean(in("31:821;211"), 1, 5, 4);
        dueMean(in("31:821;211"), 2, 5, 2);
        dueMean(in("31:821;211"), 3, NONE, 0);
        dueMean(in("63:739;123432"), 2, 173, 57);
        dueMean(in("60:739;123432"), 6, 6, 1);
        BoiledEggs x = in("31:821;211");
        x.crack(1, true);
        dueMean(x, 2, 2, 1);
        x.crack(0, false);
        dueMean(x, 2, NONE, 0);
        dueMean(x, 1, 1, 1);
        for (int raw : new int[] {0, 7, -1, LEAST, MOST}) due("mean(" + raw + ", 0)", x.mean(raw, 0), OUTSIDE);
        for (int part : new int[] {-1, 2, LEAST, MOST}) due("mean(1, " + part + ")", x.mean(1, part), OUTSIDE);
        due("count(10)", x.count(10), 6);
        due("mean(0, 0) without a KITCHEN", new BoiledEggs().mean(0, 0), OUTSIDE);
    }

    private static void risk() {
        BoiledEggs x = in("31:824;211");
        dueRisk(x, 0, 1, 5);
        dueRisk(x, 1, 3, 10);
        for (int egg : new int[] {-1, 3, LEAST, MOST}) due("risk(" + egg + ", 7)", x.risk(egg, 7), UNKNOWN);
        for (int part : new int[] {-1, 2, LEAST, MOST}) due("risk(0, " + part + ")", x.risk(0, part), OUTSIDE);
        x.stop(1, 2);
        due("risk(1, 0), fell", x.risk(1, 0), STATE);
        due("risk(1, 2), fell", x.risk(1, 2), OUTSIDE);
        x.crack(0, false);
        due("risk(0, 1), broken", x.risk(0, 1), STATE);
        dueRisk(x, 2, 1, 5);
        dueRisk(in("21:820;11"), 0, 0, 1);
        dueRisk(in("22:829;11"), 0, 0, 1);
        dueRisk(in("20:829;11"), 0, 9, 10);
    }

    private static void trier() {
        BoiledEggs x = in("42:735;1234");
        for (int kind : new int[] {-1, 5, LEAST, MOST}) due("trier(" + kind + ")", x.trier(kind), OUTSIDE);
        for (int number = 0; number < 4; number++) due("trier(" + number + ")", x.trier(number), number);
        due("trier(4)", x.trier(4), FULL);
        due("trier(5)", x.trier(5), OUTSIDE);
        due("count(7)", x.count(7), 4);
        due("trier(5) without a KITCHEN", new BoiledEggs().trier(5), OUTSIDE);
    }

    private static void about() {
        BoiledEggs x = in("42:735;1234");
        for (int kind = 1; kind <= 4; kind++) due("trier(" + kind + ")", x.trier(kind), kind - 1);
        for (int kind = 1; kind <= 4; kind++) due("about(, 0)", x.about(kind - 1, 0), kind);
        due("DOUBTER", x.about(0, 1), 1);
        due("BOLD", x.about(1, 1), 0);
        due("HUNGRY", x.about(2, 1), 3);
        due("GREEDY", x.about(3, 1), 3);
        for (int number : new int[] {-1, 4, LEAST, MOST}) due("about(" + number + ", 5)", x.about(number, 5), UNKNOWN);
        for (int what : new int[] {-1, 2, LEAST, MOST}) due("about(0, " + what + ")", x.about(0, what), OUTSIDE);
        BoiledEggs y = in("42:735;1111");
        for (int kind = 1; kind <= 4; kind++) y.trier(kind);
        due("DOUBTER of like ones", y.about(0, 1), 0);
        due("BOLD of like ones", y.about(1, 1), 0);
        due("HUNGRY of like ones", y.about(2, 1), 0);
        due("GREEDY of like ones", y.about(3, 1), 3);
        y.stop(0, 2);
        y.stop(3, 2);
        due("HUNGRY of those in the box", y.about(2, 1), 1);
        due("GREEDY of those in the box", y.about(3, 1), 2);
        BoiledEggs z = in("31:735;211");
        z.trier(0);
        due("TRIER", z.about(0, 0), 0);
        due("TRIER takes the first", z.about(0, 1), 0);
        z.crack(0, false);
        due("TRIER takes the first in the box", z.about(0, 1), 1);
        z.crack(1, false);
        z.crack(2, true);
        due("none is in the box", z.about(0, 1), NONE);
        aboveAndBelowAlike();
    }

    private static void aboveAndBelowAlike() {
        BoiledEggs x = in("21:735;31");
        x.trier(1);
        due("three quarters and one are as near to one half", x.about(0, 1), 0);
        BoiledEggs y = in("21:735;13");
        y.trier(1);
        due("one quarter and three are as near to one half", y.about(0, 1), 0);
    }

    private static void as() {
        int[][] ofKinds = {{1, 0, 0, 0, 0}, {1, 1, 0, 0, 0}, {1, 0, 1, 0, 0}, {1, 0, 0, 1, 0}, {1, 0, 0, 1, 1}};
        for (int kind = 0; kind <= 4; kind++) {
            BoiledEggs x = in("42:735;1234");
            x.trier(0);
            due("trier(" + kind + ")", x.trier(kind), 1);
            for (int taken = 0; taken <= 4; taken++) {
                due("as(1, " + taken + ") of KIND " + kind, x.as(1, taken), ofKinds[kind][taken] == 1 ? 1 : NONE);
            }
            for (int taken : new int[] {-1, 5, LEAST, MOST}) due("as(1, " + taken + ")", x.as(1, taken), OUTSIDE);
            for (int number : new int[] {-1, 2, LEAST, MOST}) due("as(" + number + ", 5)", x.as(number, 5), UNKNOWN);
        }
    }

    private static void fits() {
        BoiledEggs x = in("63:700;123432");
        due("fits(0)", x.fits(0), 20);
        due("fits(1)", x.fits(1), 0);
        due("fits(2)", x.fits(2), 0);
        x.spin(1, true);
        due("fits(0)", x.fits(0), 10);
        due("fits(1)", x.fits(1), 2);
        x.stop(3, 0);
        x.crack(5, false);
        due("fits(0)", x.fits(0), 3);
        due("fits(2)", x.fits(2), 40);
        x.crack(0, false);
        due("fits(0)", x.fits(0), 1);
        due("fits(1)", x.fits(1), 22);
        due("fits(2)", x.fits(2), 41);
        for (int what : new int[] {-1, 3, LEAST, MOST}) {
            due("fits(" + what + ")", x.fits(what), OUTSIDE);
            due("fits(" + what + ") without a KITCHEN", new BoiledEggs().fits(what), OUTSIDE);
        }
        due("fits(2), none boiled, two EGGS", in("20:000;11").fits(2), 3);
        due("fits(1), all boiled, two EGGS", in("22:000;11").fits(1), 3);
    }

    private static void mornings() {
        BoiledEggs x = in("31:821;211");
        // By hand: the SEED 0 goes to 12345, and that to 1406932606, 654583775, 1449466924.
        due("mornings(1, 0, 1)", x.mornings(1, 0, 1), 1449466924L);
        // The box is 1; 21468, 9988 and 22117 by 10: 8 is not below 8, 8 not below 2, 7 not below 2.
        due("mornings(1, 0, 0)", x.mornings(1, 0, 0), 2);
        long before = x.digest();
        x.mornings(40, MOST, 0);
        due("digest()", x.digest(), before);
        x.crack(0, true);
        due("mornings(1, 0, 0), in the box or not", x.mornings(1, 0, 0), 2);
        for (int times : new int[] {0, 41, -1, LEAST, MOST}) due("mornings(" + times + ", 1, 0)", x.mornings(times, 1, 0), OUTSIDE);
        for (int seed : new int[] {-1, LEAST}) due("mornings(1, " + seed + ", 0)", x.mornings(1, seed, 0), OUTSIDE);
        for (int what : new int[] {-1, 2, LEAST, MOST}) due("mornings(1, 1, " + what + ")", x.mornings(1, 1, what), OUTSIDE);
        due("mornings(0, 1, 0) without a KITCHEN", new BoiledEggs().mornings(0, 1, 0), OUTSIDE);
        due("mornings(40, 5, 0), none turns, all are raw", in("40:000;1111").mornings(40, 5, 0), 160);
        due("mornings(40, 5, 0), none turns, all are boiled", in("44:000;1111").mornings(40, 5, 0), 0);
    }

    private static void image() {
        BoiledEggs x = in("31:821;211");
        due("image()", x.image(), 3);
        x.crack(1, false);
        due("image(), the latest", x.image(), 2);
        x.crack(2, false);
        due("restore()", x.restore(), 2);
        due("egg(2, 1)", x.egg(2, 1), 1);
        due("egg(1, 4)", x.egg(1, 4), 0);
    }

    private static void restore() {
        BoiledEggs x = in("31:823;211");
        due("restore()", x.restore(), STATE);
        x.trier(2);
        x.spin(0, true);
        x.stop(1, 0);
        long before = x.digest();
        x.image();
        x.spin(0, false);
        x.spin(2, true);
        x.stop(1, 2);
        x.crack(2, false);
        x.trier(4);
        due("restore()", x.restore(), 3);
        due("digest()", x.digest(), before);
        due("about(1, 0)", x.about(1, 0), UNKNOWN);
        due("trier(3)", x.trier(3), 1);
        due("about(1, 0)", x.about(1, 0), 3);
        x.crack(0, true);
        x.worst(1, 0);
        x.letter(65);
        due("restore() once more", x.restore(), 3);
        due("count(10) goes on", x.count(10), 1);
        due("count(8) goes on", x.count(8), 1);
        x.blank();
        write(x, "31:823;211");
        x.kitchen();
        before = x.digest();
        due("restore() in another KITCHEN", x.restore(), STATE);
        due("digest()", x.digest(), before);
        due("image()", x.image(), 3);
        due("restore()", x.restore(), 3);
    }

    private static void count() {
        BoiledEggs x = in("52:734;12341");
        x.spin(0, true);
        x.spin(1, true);
        x.stop(0, 2);
        x.trier(1);
        x.worst(1, 0);
        x.mean(1, 0);
        x.mean(1, 1);
        x.letter(70);
        int[] want = {5, 2, 7, 3, 4, 4, 2, 1, 1, 1, 3};
        for (int what = 0; what <= 10; what++) due("count(" + what + ")", x.count(what), want[what]);
        for (int what : new int[] {-1, 11, LEAST, MOST}) due("count(" + what + ")", x.count(what), OUTSIDE);
    }

    private static long with(long hash, long... numbers) {
        for (long number : numbers) hash = 31 * hash + number;
        return hash;
    }

    private static void digest() {
        BoiledEggs x = new BoiledEggs();
        due("digest()", x.digest(), with(787, 0, 0, 0, 0, 0, 0, 0, 0, 0, 0, 0));
        x.letter(50);
        x.letter(126);
        due("digest()", x.digest(), with(787, 50, 126, 0, 0, 0, 0, 0, 0, 0, 0, 2, 0, 0));
        BoiledEggs y = in("21:823;31");
        y.spin(1, true);
        y.trier(4);
        y.stop(0, 2);
        y.stop(1, 0);
        y.worst(1, 0);
        y.letter(65);
        long want = with(787, 3, 0, 0, 0, -1, 1, 1, 1, 1, 1, 1, 0, 0, 1);
        want = with(want, 4, 1, 1, 1, 1, 2, 65, 2, 1, 8, 2, 3, 1, 1, 1, 1, 1, 1);
        due("digest()", y.digest(), want);
        due("digest() once more", y.digest(), want);
    }

    private static void tryPromise(int number) {
        promise = number;
        switch (number) {
            case 1: aNewObject(); break;
            case 2: letter(); break;
            case 3: blank(); break;
            case 4: fault(); break;
            case 5: kitchen(); break;
            case 6: egg(); break;
            case 7: spin(); break;
            case 8: stop(); break;
            case 9: crack(); break;
            case 10: likely(); break;
            case 11: likeliest(); break;
            case 12: turning(); break;
            case 13: worst(); break;
            case 14: mean(); break;
            case 15: risk(); break;
            case 16: trier(); break;
            case 17: about(); break;
            case 18: as(); break;
            case 19: fits(); break;
            case 20: mornings(); break;
            case 21: image(); break;
            case 22: restore(); break;
            case 23: count(); break;
            default: digest();
        }
    }

    public static void main(String[] args) {
        Watch.begin();
        for (int number = 1; number <= 24; number++) tryPromise(number);
        System.out.println(wrong == 0 ? "all promises hold" : wrong + " answers are not as due");
        if (wrong != 0) System.exit(1);
    }
}
