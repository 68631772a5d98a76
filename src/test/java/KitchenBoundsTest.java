/** The boundaries of a KITCHEN's text and of promises 1 to 6, each on both sides. */
public final class KitchenBoundsTest {
    private static final int NONE = Run.NONE, UNKNOWN = Run.UNKNOWN, OUTSIDE = Run.OUTSIDE, STATE = Run.STATE, FULL = Run.FULL;
    private static final int[] FAR = {Run.LEAST, Run.MOST};

    private static String kitchenOf(int eggs, int boiled) {
        return eggs + "" + boiled + ":735;" + "123412".substring(0, eggs);
    }

    /** The page is a KITCHEN: no fault in it, it is read, and it is empty then. */
    private static void taken(String page) {
        Run.page(page).keeps("fault()", page.length()).due("kitchen()", page.charAt(0) - '0').due("count(8)", 0)
            .due("count(9)", 1);
    }

    /** The letter at that place is the first that no KITCHEN has there; the page is refused and stays. */
    private static void faulty(String page, int place) {
        Run.page(page).keeps("fault()", place).keeps("kitchen()", STATE).due("count(8)", page.length()).due("count(9)", 0);
    }

    private static void aNewObject() {
        Run.sentence(1, "No KITCHEN");
        for (int what = 0; what <= 10; what++) Run.fresh().keeps("count(" + what + ")", 0);
        for (String call : new String[] {"kitchen()", "likeliest()", "worst(1, 0)", "worst(6, 1)", "mean(1, 0)", "mean(6, 1)",
            "trier(0)", "trier(4)", "fits(0)", "fits(2)", "mornings(1, 0, 0)", "image()", "restore()"}) {
            Run.fresh().keeps(call, STATE);
        }
        for (String call : new String[] {"egg(0, 0)", "spin(0, true)", "spin(0, false)", "stop(0, 0)", "stop(0, 2)",
            "crack(0, true)", "likely(0, 0)", "turning(0, 1)", "risk(0, 0)", "about(0, 0)", "as(0, 0)"}) {
            Run.fresh().keeps(call, UNKNOWN);
        }
        Run.fresh().keeps("fault()", 0).keeps("blank()", 0);
    }

    private static void letter() {
        Run.sentence(2, "OUTSIDE: code (32 to 126)");
        Run.fresh().due("letter(32)", 1).due("letter(126)", 2).due("count(8)", 2);
        for (int code : new int[] {31, 127, 0, -1, -32, 256 + 50, 65536 + 50, Run.LEAST, Run.MOST}) {
            Run.fresh().keeps("letter(" + code + ")", OUTSIDE);
            Run.page("2").keeps("letter(" + code + ")", OUTSIDE);
        }
        for (int code = 32; code <= 126; code++) Run.fresh().due("letter(" + code + ")", 1);
        Run.sentence(2, "FULL: above 14");
        Run.page("1234567890123").due("letter(65)", 14).keeps("letter(65)", FULL).due("count(8)", 14);
        Run.page("12345678901234").due("blank()", 14).write("1234567890123").due("letter(65)", 14).keeps("letter(65)", FULL);
        Run.sentence(2, "of several refusals OUTSIDE ahead of FULL");
        for (int code : new int[] {31, 127, Run.LEAST, Run.MOST}) {
            Run.page("12345678901234").keeps("letter(" + code + ")", OUTSIDE);
        }
        Run.sentence(2, "A letter comes behind THE PAGE: how many THE PAGE has");
        Run run = Run.fresh();
        for (int size = 1; size <= 14; size++) run.due("letter(" + (32 + size) + ")", size);
        Run.in("21:735;11").due("letter(50)", 1).due("letter(49)", 2);
    }

    private static void blank() {
        Run.sentence(3, "THE PAGE is empty: how many letters it had");
        Run.fresh().keeps("blank()", 0);
        Run.page("2").due("blank()", 1).keeps("blank()", 0);
        Run.page("12345678901234").due("blank()", 14).due("count(8)", 0).due("fault()", 0).due("letter(50)", 1);
        Run.page("21:735;11").due("blank()", 9).keeps("kitchen()", STATE);
        // Letters that went with the page do not come back behind new ones.
        Run.page("21:735;11").due("blank()", 9).write("21:73").due("count(8)", 5).keeps("kitchen()", STATE);
        Run.in("21:735;11").then("spin(0, true)", "trier(1)", "image()").keeps("blank()", 0);
    }

    private static void fault() {
        Run.sentence(4, "how many letters it has, if there is none");
        for (int eggs = 2; eggs <= 6; eggs++) {
            String text = kitchenOf(eggs, eggs);
            for (int size = 0; size <= text.length(); size++) Run.page(text.substring(0, size)).keeps("fault()", size);
        }
        Run.sentence(4, "the first letter that no KITCHEN has there, behind those ahead of it");
        for (int eggs = 2; eggs <= 6; eggs++) {
            String text = kitchenOf(eggs, eggs);
            for (int place = 0; place <= text.length(); place++) everyLetterAt(text.substring(0, place), eggs);
        }
        faulty("72:735;11", 0);
        faulty("23:735;11", 1);
        faulty("1", 0);
        faulty("xxxxxxxxxxxxxx", 0);
        faulty("2xx", 1);
        faulty("22:735;15x", 8);
        faulty("66:999;444444 ", 13);
        faulty("22:735;1112345", 9);
        Run.page("22:735;111").due("fault()", 9).due("blank()", 10).due("fault()", 0);
    }

    private static void everyLetterAt(String ahead, int eggs) {
        String right = lettersAt(ahead.length(), eggs);
        for (char letter = 32; letter <= 126; letter++) {
            int place = ahead.length();
            Run.page(ahead + letter).due("fault()", right.indexOf(letter) >= 0 ? place + 1 : place);
            if (right.indexOf(letter) < 0 && place < 13) Run.page(ahead + letter + '1').due("fault()", place);
        }
    }

    private static String lettersAt(int place, int eggs) {
        if (place == 0) return "23456";
        if (place == 1) return "0123456".substring(0, eggs + 1);
        if (place == 2) return ":";
        if (place <= 5) return "0123456789";
        if (place == 6) return ";";
        return place < 7 + eggs ? "1234" : "";
    }

    private static void text() {
        Run.sentence(5, "a digit EGGS (2 to 6)");
        taken("21:735;11");
        taken("61:735;111111");
        faulty("11:735;1", 0);
        faulty("11:735;11", 0);
        faulty("01:735;", 0);
        faulty("71:735;1111111", 0);
        faulty("71:735;111111", 0);
        Run.sentence(5, "a digit BOILED (0 to EGGS)");
        for (int eggs = 2; eggs <= 6; eggs++) {
            for (int boiled = 0; boiled <= eggs; boiled++) taken(kitchenOf(eggs, boiled));
            for (int boiled = eggs + 1; boiled <= 9; boiled++) faulty(kitchenOf(eggs, boiled), 1);
            faulty(kitchenOf(eggs, 1).replaceFirst("1", "/"), 1);
        }
        Run.sentence(5, "':' and ';' stand at their places");
        faulty("21;735;11", 2);
        faulty("21;735:11", 2);
        faulty("219735;11", 2);
        faulty("21:735:11", 6);
        faulty("21:735<11", 6);
        faulty("21:7351;1", 6);
        Run.sentence(5, "TURNS of a boiled one, of a raw one, FALLS (each 0 to 9)");
        for (int place = 3; place <= 5; place++) {
            for (char letter = '0'; letter <= '9'; letter++) taken(putAt("21:735;11", place, letter));
            for (char letter : new char[] {'/', ':', ' ', '-', 'a', '~'}) faulty(putAt("21:735;11", place, letter), place);
        }
        Run.sentence(5, "for each EGG a digit HABIT (1 to 4)");
        for (int egg = 0; egg < 6; egg++) {
            for (char letter = '1'; letter <= '4'; letter++) taken(putAt("63:735;222222", 7 + egg, letter));
            for (char letter : new char[] {'0', '5', '9', ' ', ';'}) faulty(putAt("63:735;222222", 7 + egg, letter), 7 + egg);
        }
        Run.sentence(5, "for each EGG: not one HABIT less, not one more");
        for (int eggs = 2; eggs <= 6; eggs++) {
            String whole = kitchenOf(eggs, 1);
            taken(whole);
            faulty(whole + "1", whole.length());
            for (int size = 0; size < whole.length(); size++) {
                Run.page(whole.substring(0, size)).keeps("kitchen()", STATE).due("fault()", size);
            }
        }
    }

    private static String putAt(String text, int place, char letter) {
        return text.substring(0, place) + letter + text.substring(place + 1);
    }

    private static void kitchen() {
        Run.sentence(5, "THE PAGE is read as THE KITCHEN: what its digits say");
        Run.in("64:735;123414").due("count(0)", 6).due("count(1)", 4).due("count(2)", 7).due("count(3)", 3).due("count(4)", 5)
            .due("egg(0, 0)", 1).due("egg(1, 0)", 2).due("egg(2, 0)", 3).due("egg(3, 0)", 4).due("egg(4, 0)", 1).due("egg(5, 0)", 4);
        Run.sentence(5, "another one is gone, with TRIERS");
        Run run = Run.in("63:735;123414").then("trier(4)", "spin(5, true)", "stop(4, 1)", "crack(0, false)", "stop(3, 2)", "image()");
        run.write("21:460;32").due("kitchen()", 2).due("count(0)", 2).due("count(1)", 1).due("count(2)", 4).due("count(3)", 6)
            .due("count(4)", 0).due("count(5)", 2).due("count(6)", 0).due("count(7)", 0).due("count(8)", 0).due("count(9)", 2)
            .due("about(0, 0)", UNKNOWN).due("as(0, 0)", UNKNOWN).due("egg(2, 0)", UNKNOWN).due("fits(0)", 2)
            .dueParts("likely(0, ", 3, 5).due("egg(0, 1)", 1).due("egg(0, 4)", NONE).due("restore()", STATE);
        run.write("63:735;123414").due("kitchen()", 6).due("count(5)", 6).due("egg(4, 4)", NONE).due("egg(5, 2)", 0)
            .due("egg(5, 3)", 0).due("fits(0)", 20).due("trier(2)", 0);
        Run.sentence(5, "STATE: it is none; it changes nothing");
        for (String page : new String[] {"", "2", "21:735;1", "21:735;111", "x", "23:735;11", "12345678901234"}) {
            Run.in("31:735;123").then("trier(2)", "spin(1, true)", "image()", "stop(0, 0)", "trier(3)").write(page)
                .keeps("kitchen()", STATE).due("count(9)", 1).due("restore()", 3);
        }
        Run.in("21:735;11").keeps("kitchen()", STATE);
    }

    private static void egg() {
        Run.sentence(6, "UNKNOWN: an EGG is numbered from 0, there are EGGS of them");
        for (int eggs = 2; eggs <= 6; eggs++) {
            String kitchen = kitchenOf(eggs, 1);
            for (int egg = 0; egg < eggs; egg++) Run.in(kitchen).keeps("egg(" + egg + ", 0)", kitchen.charAt(7 + egg) - '0');
            for (int egg : new int[] {-1, eggs, 6, 7, Run.LEAST, Run.MOST}) Run.in(kitchen).keeps("egg(" + egg + ", 0)", UNKNOWN);
        }
        // There were more in the KITCHEN ahead of this one.
        Run.in("61:735;111111").write("21:735;11").due("kitchen()", 2).keeps("egg(2, 0)", UNKNOWN).keeps("egg(1, 0)", 1);
        Run.sentence(6, "OUTSIDE: what = 0 to 4");
        Run.in("21:735;34").keeps("egg(1, 0)", 4).keeps("egg(1, 1)", 1).keeps("egg(1, 2)", 0).keeps("egg(1, 3)", 0)
            .keeps("egg(1, 4)", NONE).keeps("egg(1, -1)", OUTSIDE).keeps("egg(1, 5)", OUTSIDE);
        for (int far : FAR) Run.in("21:735;34").keeps("egg(1, " + far + ")", OUTSIDE);
        Run.sentence(6, "of several refusals UNKNOWN ahead of OUTSIDE");
        Run.in("21:735;34").keeps("egg(2, 5)", UNKNOWN).keeps("egg(-1, -1)", UNKNOWN);
        Run.fresh().keeps("egg(0, 5)", UNKNOWN);
        Run.sentence(6, "1 whether it is in the box (1, 0)");
        Run.in("31:735;123").then("stop(0, 0)").due("egg(0, 1)", 1).then("stop(0, 2)").due("egg(0, 1)", 0).then("crack(1, true)")
            .due("egg(1, 1)", 0).due("egg(2, 1)", 1);
        Run.sentence(6, "2 how many SPINS of it are told, 3 how many of these turned");
        Run.in("31:735;123").times(8, "spin(2, true)").due("egg(2, 2)", 8).due("egg(2, 3)", 8).due("egg(1, 2)", 0);
        Run.in("31:735;123").times(8, "spin(2, false)").due("egg(2, 2)", 8).due("egg(2, 3)", 0);
        Run.in("31:735;123").then("spin(2, false)", "spin(0, true)", "spin(2, true)", "crack(2, false)").due("egg(2, 2)", 2)
            .due("egg(2, 3)", 1).due("egg(0, 2)", 1).due("egg(0, 3)", 1);
        Run.sentence(6, "4 what is known surely by STOP or BROKEN (1 boiled, 0 raw, NONE nothing)");
        Run.in("31:735;123").due("egg(0, 4)", NONE).then("stop(0, 2)").due("egg(0, 4)", NONE).then("stop(1, 0)").due("egg(1, 4)", 0)
            .then("stop(1, 2)").due("egg(1, 4)", 0);
        Run.in("31:735;123").then("stop(0, 1)").due("egg(0, 4)", 1).then("crack(0, true)").due("egg(0, 4)", 1)
            .then("crack(1, false)").due("egg(1, 4)", 0).then("crack(2, false)").due("egg(2, 4)", 0);
        // By a SPIN alone it is sure as well, but not by STOP or BROKEN.
        Run.in("21:500;11").then("spin(0, true)").due("fits(1)", 1).due("egg(0, 4)", NONE).due("egg(1, 4)", NONE);
        Run.in("22:735;11").due("fits(1)", 3).due("egg(0, 4)", NONE);
    }

    public static void main(String[] args) {
        Watch.begin();
        aNewObject();
        letter();
        blank();
        fault();
        text();
        kitchen();
        egg();
        Run.end();
    }
}
