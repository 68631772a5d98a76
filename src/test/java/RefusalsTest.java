/**
 * Every call with numbers on both sides of each bound, in states of many kinds: of several refusals the first as told
 * by the call is answered, it changes nothing, and where none is due there is none. What is refused is reckoned from
 * what is known of the state by hand, not from what the object tells.
 */
public final class RefusalsTest {
    private static final int TAKEN = 0, UNKNOWN = Run.UNKNOWN, OUTSIDE = Run.OUTSIDE, STATE = Run.STATE, FULL = Run.FULL;
    private static final int[] NUMBERS = {Run.LEAST, -1, 0, 1, 2, 3, 4, 5, 6, 7, 10, 11, Run.MOST};

    /** Of eggs as bits: which are in the box, which can be nothing but boiled, nothing but raw. */
    private static final class Known {
        final String name;
        final Run run;
        int eggs, inBox, boiled, raw, turnsBoiled, turnsRaw, falls, triers;
        boolean fullOfSpins, sixtyDone, hasImage, fullPage, wholePage;

        Known(String name, Run run) {
            this.name = name;
            this.run = run;
        }

        Known eggs(int number, int inTheBox, int surelyBoiled, int surelyRaw) {
            eggs = number;
            inBox = inTheBox;
            boiled = surelyBoiled;
            raw = surelyRaw;
            return this;
        }

        Known tenths(int ofBoiled, int ofRaw, int ofFalls) {
            turnsBoiled = ofBoiled;
            turnsRaw = ofRaw;
            falls = ofFalls;
            return this;
        }

        boolean isEgg(int egg) {
            return 0 <= egg && egg < eggs;
        }

        boolean isTrier(int trier) {
            return 0 <= trier && trier < triers;
        }

        boolean isIn(int egg) {
            return (inBox & 1 << egg) != 0;
        }

        boolean canBe(int egg, boolean asBoiled) {
            return ((asBoiled ? raw : boiled) & 1 << egg) == 0;
        }

        boolean canTurn(int egg) {
            return canBe(egg, true) && turnsBoiled > 0 || canBe(egg, false) && turnsRaw > 0;
        }

        void due(String call, int refusal) {
            if (refusal != TAKEN) run.again().keeps(call, refusal);
            else run.again().dueTaken(call);
        }
    }

    private static boolean in(int number, int least, int most) {
        return least <= number && number <= most;
    }

    private static void page(Known known) {
        for (int code : new int[] {Run.LEAST, -1, 0, 31, 32, 126, 127, Run.MOST}) {
            known.due("letter(" + code + ")", !in(code, 32, 126) ? OUTSIDE : known.fullPage ? FULL : TAKEN);
        }
        known.due("blank()", TAKEN);
        known.due("fault()", TAKEN);
        known.due("kitchen()", known.wholePage ? TAKEN : STATE);
    }

    private static void ofEggs(Known known, int egg, int n) {
        boolean isEgg = known.isEgg(egg);
        String numbers = "(" + egg + ", " + n + ")";
        known.due("egg" + numbers, !isEgg ? UNKNOWN : !in(n, 0, 4) ? OUTSIDE : TAKEN);
        known.due("likely" + numbers, !isEgg ? UNKNOWN : !in(n, 0, 1) ? OUTSIDE : TAKEN);
        known.due("turning" + numbers, !isEgg ? UNKNOWN : !in(n, 1, 9) ? OUTSIDE : TAKEN);
        known.due("risk" + numbers, !isEgg ? UNKNOWN : !in(n, 0, 1) ? OUTSIDE : !known.isIn(egg) ? STATE : TAKEN);
        known.due("stop" + numbers, !isEgg ? UNKNOWN : !in(n, 0, 2) ? OUTSIDE : stopped(known, egg, n));
    }

    private static int stopped(Known known, int egg, int what) {
        if (!known.isIn(egg)) return STATE;
        boolean canBe = what == 2 ? known.falls > 0 : known.canBe(egg, what == 1);
        return canBe ? TAKEN : STATE;
    }

    private static void tried(Known known, int egg) {
        boolean isEgg = known.isEgg(egg);
        for (boolean yes : new boolean[] {true, false}) {
            boolean canSpin = isEgg && known.isIn(egg) && (!yes || known.canTurn(egg));
            known.due("spin(" + egg + ", " + yes + ")", !isEgg ? UNKNOWN : !canSpin ? STATE : known.fullOfSpins ? FULL : TAKEN);
            known.due("crack(" + egg + ", " + yes + ")", !isEgg ? UNKNOWN : !known.isIn(egg) || !known.canBe(egg, yes) ? STATE : TAKEN);
        }
    }

    private static void ofTwo(Known known, int one, int two) {
        String numbers = "(" + one + ", " + two + ")";
        boolean noBreaking = known.eggs == 0 || known.sixtyDone;
        int breaking = !in(one, 1, 6) || !in(two, 0, 1) ? OUTSIDE : noBreaking ? STATE : TAKEN;
        known.due("worst" + numbers, breaking);
        known.due("mean" + numbers, breaking);
        known.due("about" + numbers, !known.isTrier(one) ? UNKNOWN : !in(two, 0, 1) ? OUTSIDE : TAKEN);
        known.due("as" + numbers, !known.isTrier(one) ? UNKNOWN : !in(two, 0, 4) ? OUTSIDE : TAKEN);
    }

    private static void ofOne(Known known, int n) {
        boolean none = known.eggs == 0;
        known.due("trier(" + n + ")", !in(n, 0, 4) ? OUTSIDE : none ? STATE : known.triers == 4 ? FULL : TAKEN);
        known.due("fits(" + n + ")", !in(n, 0, 2) ? OUTSIDE : none ? STATE : TAKEN);
        known.due("count(" + n + ")", !in(n, 0, 10) ? OUTSIDE : TAKEN);
    }

    private static void mornings(Known known) {
        for (int times : new int[] {Run.LEAST, -1, 0, 1, 40, 41, Run.MOST}) {
            for (int seed : new int[] {Run.LEAST, -1, 0, Run.MOST}) {
                for (int what : new int[] {-1, 0, 1, 2}) {
                    boolean outside = !in(times, 1, 40) || seed < 0 || !in(what, 0, 1);
                    known.due("mornings(" + times + ", " + seed + ", " + what + ")", outside ? OUTSIDE : known.eggs == 0 ? STATE : TAKEN);
                }
            }
        }
    }

    private static void tryAll(Known known) {
        Run.sentence("Refusals, of several the first as told by each call; they change nothing", known.name);
        page(known);
        for (int one : NUMBERS) {
            tried(known, one);
            ofOne(known, one);
            for (int two : NUMBERS) {
                ofEggs(known, one, two);
                ofTwo(known, one, two);
            }
        }
        mornings(known);
        known.due("likeliest()", known.eggs == 0 ? STATE : TAKEN);
        known.due("image()", known.eggs == 0 ? STATE : TAKEN);
        known.due("restore()", known.hasImage ? TAKEN : STATE);
        known.due("digest()", TAKEN);
    }

    private static void withoutKitchen() {
        tryAll(new Known("a new object", Run.fresh()));
        Known full = new Known("no KITCHEN, THE PAGE is full", Run.page("21:735;1112345"));
        full.fullPage = true;
        tryAll(full);
        Known whole = new Known("no KITCHEN, but one on THE PAGE", Run.page("66:735;111111"));
        whole.wholePage = true;
        tryAll(whole);
    }

    private static void withKitchen() {
        tryAll(new Known("two EGGS", Run.in("21:735;11")).eggs(2, 3, 0, 0).tenths(7, 3, 5));
        tryAll(new Known("six EGGS, none is boiled, no boiled one turns", Run.in("60:030;111111")).eggs(6, 63, 0, 63).tenths(0, 3, 0));
        tryAll(new Known("five EGGS, all are boiled, no boiled one turns", Run.in("55:091;11111")).eggs(5, 31, 31, 0).tenths(0, 9, 1));
        tryAll(new Known("none turns", Run.in("42:000;1234")).eggs(4, 15, 0, 0));
        Run none = Run.in("21:735;11").then("crack(0, true)", "stop(1, 2)");
        tryAll(new Known("none is in the box", none).eggs(2, 0, 1, 2).tenths(7, 3, 5));
        Run much = Run.in("42:509;1234").times(7, "spin(3, true)").then("image()", "spin(0, false)", "crack(2, false)", "stop(1, 2)");
        much.times(4, "trier(4)").times(30, "worst(1, 0)").times(30, "mean(1, 0)").write("21:735;1112345");
        Known known = new Known("all is full", much).eggs(4, 9, 8, 4).tenths(5, 0, 9);
        known.triers = 4;
        known.fullOfSpins = true;
        known.sixtyDone = true;
        known.hasImage = true;
        known.fullPage = true;
        tryAll(known);
        Run last = Run.in("31:735;111").times(7, "spin(0, true)").times(3, "trier(1)").times(59, "worst(1, 0)").write("31:735;1111234");
        Known ahead = new Known("one ahead of full", last.then("blank()").write("31:735;111").then("image()")).eggs(3, 7, 0, 0).tenths(7, 3, 5);
        ahead.triers = 3;
        ahead.wholePage = true;
        ahead.hasImage = true;
        tryAll(ahead);
        Run other = Run.in("61:735;111111").then("trier(1)", "image()", "spin(5, true)").write("32:100;111").then("kitchen()", "spin(1, true)", "stop(0, 0)");
        tryAll(new Known("another KITCHEN since", other).eggs(3, 7, 6, 1).tenths(1, 0, 0));
    }

    public static void main(String[] args) {
        Watch.begin();
        withoutKitchen();
        withKitchen();
        Run.end();
    }
}
