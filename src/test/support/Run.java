import java.util.ArrayList;
import java.util.List;

/**
 * A run of calls on one new object. Calls are written as texts, such as "spin(0, true)", so that what is called and
 * what is printed cannot differ, and so that a run can be made again on another object.
 */
final class Run {
    static final int NONE = -1, UNKNOWN = -101, OUTSIDE = -102, STATE = -103, FULL = -104;
    static final int LEAST = Integer.MIN_VALUE, MOST = Integer.MAX_VALUE;
    /** What an object answers behind so many calls is free, so that no test may rely on it. */
    static final int MOST_CALLS = 512;
    private static final int MOST_SHOWN = 10;

    private static int wrong = 0;
    private static int sentences = 0;
    private static String sentence = "";

    private final BoiledEggs eggs = new BoiledEggs();
    private final List<String> calls = new ArrayList<>();

    /** What is due from here on is due by these words of the document. */
    static void sentence(int promise, String words) {
        sentence(words, "promise " + promise);
    }

    static void sentence(String words, String where) {
        sentences++;
        sentence = where + ", \"" + words + "\"";
    }

    static void end() {
        System.out.println(wrong == 0 ? sentences + " sentences hold" : wrong + " answers are not as due");
        if (wrong != 0) System.exit(1);
    }

    static Run fresh() {
        return new Run();
    }

    static Run page(String text) {
        return new Run().write(text);
    }

    static Run in(String kitchen) {
        Run run = page(kitchen);
        return run.due("kitchen()", kitchen.charAt(0) - '0');
    }

    Run write(String text) {
        for (int i = 0; i < text.length(); i++) call("letter(" + (int) text.charAt(i) + ")");
        return this;
    }

    /** Called, whatever the answer is. */
    Run then(String... more) {
        for (String text : more) call(text);
        return this;
    }

    Run times(int times, String text) {
        for (int i = 0; i < times; i++) call(text);
        return this;
    }

    Run due(String text, long want) {
        compare(text, call(text), want);
        return this;
    }

    /** It is not refused. */
    Run dueTaken(String text) {
        long got = call(text);
        if (got >= FULL && got <= UNKNOWN) report(text + " was refused", got, 0);
        return this;
    }

    /** Parts 0 and 1 of a call such as "likely(2, ". */
    Run dueParts(String opened, long above, long below) {
        return due(opened + "0)", above).due(opened + "1)", below);
    }

    /** It answers so, and all that can be asked afterwards is answered as if it had not been called. */
    Run keeps(String text, long want) {
        Run with = again();
        Run without = again();
        compare(text, with.call(text), want);
        List<String> asked = new ArrayList<>();
        List<Long> got = with.tellAll(null);
        List<Long> due = without.tellAll(asked);
        for (int i = 0; i < due.size(); i++) {
            if (!due.get(i).equals(got.get(i))) {
                report(text + " has changed something: then " + asked.get(i), got.get(i), due.get(i));
                break;
            }
        }
        call(text);
        return this;
    }

    Run again() {
        Run run = new Run();
        for (String text : calls) run.call(text);
        return run;
    }

    int made() {
        return calls.size();
    }

    private void compare(String text, long got, long want) {
        if (got != want) report(text, got, want);
    }

    private void report(String text, long got, long want) {
        if (wrong++ < MOST_SHOWN) {
            System.out.println(sentence + ": " + text + " answered " + got + ", due is " + want + ", in " + calls);
        }
    }

    /** All that the face tells now, and behind it what an image, a full row of triers and a page hold back. */
    private List<Long> tellAll(List<String> asked) {
        List<Long> all = new ArrayList<>();
        tellNow(all, asked);
        ask(all, asked, "worst(1, 0)", "mean(2, 0)", "mean(1, 1)", "count(10)", "restore()");
        tellNow(all, asked);
        ask(all, asked, "trier(1)", "trier(2)", "trier(3)", "trier(4)", "trier(4)", "letter(49)", "fault()", "blank()");
        return all;
    }

    private void tellNow(List<Long> all, List<String> asked) {
        for (int what = 0; what <= 10; what++) ask(all, asked, "count(" + what + ")");
        for (int egg = 0; egg < 6; egg++) {
            for (int what = 0; what <= 4; what++) ask(all, asked, "egg(" + egg + ", " + what + ")");
            for (int part = 0; part <= 1; part++) {
                ask(all, asked, "likely(" + egg + ", " + part + ")", "risk(" + egg + ", " + part + ")");
            }
            ask(all, asked, "turning(" + egg + ", 9)");
        }
        for (int trier = 0; trier < 4; trier++) {
            ask(all, asked, "about(" + trier + ", 0)", "about(" + trier + ", 1)", "as(" + trier + ", 3)");
        }
        ask(all, asked, "likeliest()", "fits(0)", "fits(1)", "fits(2)", "mornings(3, 7, 0)", "fault()", "digest()");
    }

    private void ask(List<Long> all, List<String> asked, String... texts) {
        for (String text : texts) {
            all.add(call(text));
            if (asked != null) asked.add(text);
        }
    }

    long call(String text) {
        calls.add(text);
        if (calls.size() > MOST_CALLS) throw new IllegalStateException("a test makes too many calls: " + calls);
        int open = text.indexOf('(');
        String inside = text.substring(open + 1, text.length() - 1);
        String[] words = inside.isEmpty() ? new String[0] : inside.split(", ");
        int[] n = new int[words.length];
        for (int i = 0; i < n.length; i++) n[i] = numberOf(words[i]);
        return answer(text.substring(0, open), n);
    }

    private static int numberOf(String word) {
        if (word.equals("true")) return 1;
        return word.equals("false") ? 0 : Integer.parseInt(word);
    }

    private long answer(String name, int[] n) {
        switch (name) {
            case "letter": return eggs.letter(n[0]);
            case "blank": return eggs.blank();
            case "fault": return eggs.fault();
            case "kitchen": return eggs.kitchen();
            case "egg": return eggs.egg(n[0], n[1]);
            case "spin": return eggs.spin(n[0], n[1] == 1);
            case "stop": return eggs.stop(n[0], n[1]);
            case "crack": return eggs.crack(n[0], n[1] == 1);
            case "likely": return eggs.likely(n[0], n[1]);
            case "likeliest": return eggs.likeliest();
            case "turning": return eggs.turning(n[0], n[1]);
            case "worst": return eggs.worst(n[0], n[1]);
            case "mean": return eggs.mean(n[0], n[1]);
            case "risk": return eggs.risk(n[0], n[1]);
            case "trier": return eggs.trier(n[0]);
            case "about": return eggs.about(n[0], n[1]);
            case "as": return eggs.as(n[0], n[1]);
            case "fits": return eggs.fits(n[0]);
            case "mornings": return eggs.mornings(n[0], n[1], n[2]);
            case "image": return eggs.image();
            case "restore": return eggs.restore();
            case "count": return eggs.count(n[0]);
            case "digest": return eggs.digest();
            default: throw new IllegalArgumentException(name);
        }
    }
}
