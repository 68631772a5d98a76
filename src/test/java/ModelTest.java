import java.math.BigInteger;
import java.util.ArrayList;
import java.util.HashMap;
import java.util.List;
import java.util.Map;
import java.util.Random;

/**
 * Long runs of calls, by a fixed seed, against a second program: it keeps a list of all that was told and reckons each
 * answer from that list anew, by fractions without a limit. It is by the same hand as the class and reads the document
 * in the same way, so it finds slips, not words that were misread.
 */
public final class ModelTest {
    private static final int NONE = -1, UNKNOWN = -101, OUTSIDE = -102, STATE = -103, FULL = -104;
    private static final int RUNS = 1500, CALLS = 500;

    /** Of kind 's' a spin, 't' a stop, 'c' a crack; what is 1 for turned or boiled, 2 for fell. */
    private record Event(char kind, int egg, int what) { }

    private static final class Model {
        StringBuilder page = new StringBuilder();
        String text = "";
        List<Event> events = new ArrayList<>();
        List<Integer> triers = new ArrayList<>();
        List<Event> keptEvents = null;
        int keptTriers, read, done;

        int eggs() { return text.isEmpty() ? 0 : text.charAt(0) - '0'; }
        int number(int place) { return text.isEmpty() ? 0 : text.charAt(place) - '0'; }
        boolean noEgg(int egg) { return egg < 0 || egg >= eggs(); }
        static boolean out(int number, int least, int most) { return number < least || number > most; }

        static boolean starts(String text) {
            for (int end = 0; end <= text.length(); end++) if (!mayStart(text.substring(0, end))) return false;
            return true;
        }

        static boolean mayStart(String text) {
            String whole = text + "21:000;".substring(Math.min(7, text.length()));
            if (whole.charAt(0) < '2' || whole.charAt(0) > '6') return false;
            while (whole.length() < 7 + whole.charAt(0) - '0') whole += "1";
            return isKitchen(whole);
        }

        static boolean isKitchen(String text) {
            return text.matches("[2-6][0-6]:[0-9]{3};[1-4]+") && text.charAt(1) <= text.charAt(0)
                && text.length() == 7 + text.charAt(0) - '0';
        }

        int letter(int code) {
            if (out(code, 32, 126)) return OUTSIDE;
            if (page.length() == 14) return FULL;
            page.append((char) code);
            return page.length();
        }

        int blank() { int had = page.length(); page.setLength(0); return had; }

        int fault() {
            for (int end = 1; end <= page.length(); end++) if (!starts(page.substring(0, end))) return end - 1;
            return page.length();
        }

        int kitchen() {
            if (!isKitchen(page.toString())) return STATE;
            text = page.toString();
            page.setLength(0);
            events = new ArrayList<>();
            triers = new ArrayList<>();
            keptEvents = null;
            read++;
            return eggs();
        }

        boolean inBox(int egg, List<Event> list) {
            for (Event e : list) if (e.egg == egg && (e.kind == 'c' || e.kind == 't' && e.what == 2)) return false;
            return true;
        }

        boolean inBox(int egg) { return inBox(egg, events); }

        int boxed() { int n = 0; for (int e = 0; e < eggs(); e++) if (inBox(e)) n++; return n; }

        int spins(int egg, boolean turnedOnly) {
            int n = 0;
            for (Event e : events) if (e.kind == 's' && (egg == -1 || e.egg == egg) && (!turnedOnly || e.what == 1)) n++;
            return n;
        }

        int egg(int egg, int what) {
            if (noEgg(egg)) return UNKNOWN;
            if (out(what, 0, 4)) return OUTSIDE;
            if (what == 0) return number(7 + egg);
            if (what == 1) return inBox(egg) ? 1 : 0;
            if (what == 2) return spins(egg, false);
            if (what == 3) return spins(egg, true);
            int known = NONE;
            for (Event e : events) if (e.egg == egg && e.kind != 's' && e.what != 2) known = e.what;
            return known;
        }

        BigInteger weight(int box, List<Event> list) {
            if (Integer.bitCount(box) != number(1)) return BigInteger.ZERO;
            BigInteger w = BigInteger.ONE;
            for (int e = 0; e < eggs(); e++) if ((box & 1 << e) != 0) w = w.multiply(BigInteger.valueOf(number(7 + e)));
            for (Event e : list) {
                int boiled = (box & 1 << e.egg) != 0 ? 1 : 0;
                if (e.kind == 's') {
                    int turns = boiled == 1 ? number(3) : number(4);
                    w = w.multiply(BigInteger.valueOf(e.what == 1 ? turns : 10 - turns));
                } else if (e.what != 2 && e.what != boiled) {
                    w = BigInteger.ZERO;
                }
            }
            return w;
        }

        /** The weight of all boxes in which the egg is boiled (1), raw (0), or either (-1). */
        BigInteger sum(int egg, int how, List<Event> list) {
            BigInteger all = BigInteger.ZERO;
            for (int box = 0; box < 1 << eggs(); box++) {
                if (how == -1 || (box >> egg & 1) == how) all = all.add(weight(box, list));
            }
            return all;
        }

        boolean cannotBe(Event event) {
            List<Event> more = new ArrayList<>(events);
            more.add(event);
            return sum(0, -1, more).signum() == 0;
        }

        int spin(int egg, boolean turned) {
            Event event = new Event('s', egg, turned ? 1 : 0);
            if (noEgg(egg)) return UNKNOWN;
            if (!inBox(egg) || cannotBe(event)) return STATE;
            if (spins(-1, false) == 8) return FULL;
            events.add(event);
            return spins(-1, false);
        }

        int stop(int egg, int what) {
            Event event = new Event('t', egg, what);
            if (noEgg(egg)) return UNKNOWN;
            if (out(what, 0, 2)) return OUTSIDE;
            if (!inBox(egg) || cannotBe(event) || what == 2 && number(5) == 0) return STATE;
            events.add(event);
            return boxed();
        }

        int crack(int egg, boolean boiled) {
            Event event = new Event('c', egg, boiled ? 1 : 0);
            if (noEgg(egg)) return UNKNOWN;
            if (!inBox(egg) || cannotBe(event)) return STATE;
            events.add(event);
            return boxed();
        }

        static long lowest(BigInteger above, BigInteger below, int part) {
            BigInteger by = above.gcd(below);
            return (part == 0 ? above : below).divide(by).longValueExact();
        }

        long likely(int egg, int part) {
            if (noEgg(egg)) return UNKNOWN;
            if (out(part, 0, 1)) return OUTSIDE;
            return lowest(sum(egg, 1, events), sum(egg, -1, events), part);
        }

        int likeliest() {
            if (eggs() == 0) return STATE;
            int best = -1;
            for (int box = 0; box < 1 << eggs(); box++) {
                if (best == -1 || weight(box, events).compareTo(weight(best, events)) > 0) best = box;
            }
            return best;
        }

        int turning(int egg, int tenths) {
            if (noEgg(egg)) return UNKNOWN;
            if (out(tenths, 1, 9)) return OUTSIDE;
            List<Event> more = new ArrayList<>(events);
            for (int n = 0; n <= 5; n++) {
                BigInteger all = sum(egg, -1, more).multiply(BigInteger.valueOf(tenths));
                BigInteger boiled = sum(egg, 1, more).multiply(BigInteger.TEN);
                if (all.signum() != 0 && boiled.compareTo(all) >= 0) return n;
                more.add(new Event('s', egg, 1));
            }
            return NONE;
        }

        Map<Integer, BigInteger> means = new HashMap<>();
        Map<Integer, Integer> worsts = new HashMap<>();
        BigInteger[] weights;

        BigInteger weightOf(int raws, int boileds) {
            BigInteger all = BigInteger.ZERO;
            for (int box = 0; box < weights.length; box++) {
                if ((box & raws) == 0 && (box & boileds) == boileds) all = all.add(weights[box]);
            }
            return all;
        }

        BigInteger breakMean(int raws, int boileds, int need, int first) {
            if (Integer.bitCount(raws) >= need || weightOf(raws, boileds).signum() == 0) return BigInteger.ZERO;
            int key = raws << 6 | boileds;
            if (first == -1 && means.containsKey(key)) return means.get(key);
            BigInteger least = null;
            for (int e = 0; e < eggs(); e++) {
                if (!inBox(e) || ((raws | boileds) >> e & 1) == 1 || first != -1 && e != first) continue;
                BigInteger cost = breakMean(raws | 1 << e, boileds, need, -1).add(breakMean(raws, boileds | 1 << e, need, -1));
                if (least == null || cost.compareTo(least) < 0) least = cost;
            }
            least = least.add(weightOf(raws, boileds));
            if (first == -1) means.put(key, least);
            return least;
        }

        int breakWorst(int raws, int boileds, int need) {
            if (Integer.bitCount(raws) >= need || weightOf(raws, boileds).signum() == 0) return 0;
            int key = raws << 6 | boileds;
            if (worsts.containsKey(key)) return worsts.get(key);
            int least = 99;
            for (int e = 0; e < eggs(); e++) {
                if (!inBox(e) || ((raws | boileds) >> e & 1) == 1) continue;
                least = Math.min(least, 1 + Math.max(breakWorst(raws | 1 << e, boileds, need), breakWorst(raws, boileds | 1 << e, need)));
            }
            worsts.put(key, least);
            return least;
        }

        boolean canBreak(int raw) {
            done++;
            means.clear();
            worsts.clear();
            weights = new BigInteger[1 << eggs()];
            boolean can = true;
            for (int box = 0; box < weights.length; box++) {
                weights[box] = weight(box, events);
                int raws = 0;
                for (int e = 0; e < eggs(); e++) if (inBox(e) && (box >> e & 1) == 0) raws++;
                if (weights[box].signum() > 0 && raws < raw) can = false;
            }
            return can;
        }

        int worst(int raw, int what) {
            if (out(raw, 1, 6) || out(what, 0, 1)) return OUTSIDE;
            if (eggs() == 0 || done >= 60) return STATE;
            if (!canBreak(raw)) return NONE;
            if (what == 0) return breakWorst(0, 0, raw);
            BigInteger least = breakMean(0, 0, raw, -1);
            for (int e = 0; e < eggs(); e++) if (inBox(e) && breakMean(0, 0, raw, e).equals(least)) return e;
            throw new IllegalStateException();
        }

        long mean(int raw, int part) {
            if (out(raw, 1, 6) || out(part, 0, 1)) return OUTSIDE;
            if (eggs() == 0 || done >= 60) return STATE;
            if (!canBreak(raw)) return part == 0 ? NONE : 0;
            return lowest(breakMean(0, 0, raw, -1), sum(0, -1, events), part);
        }

        long risk(int egg, int part) {
            if (noEgg(egg)) return UNKNOWN;
            if (out(part, 0, 1)) return OUTSIDE;
            if (!inBox(egg)) return STATE;
            return lowest(sum(egg, 0, events).multiply(BigInteger.valueOf(number(5))), sum(egg, -1, events).multiply(BigInteger.TEN), part);
        }

        int trier(int kind) {
            if (out(kind, 0, 4)) return OUTSIDE;
            if (eggs() == 0) return STATE;
            if (triers.size() == 4) return FULL;
            triers.add(kind);
            return triers.size() - 1;
        }

        int next(int kind) {
            BigInteger all = sum(0, -1, events);
            int best = NONE;
            BigInteger bestBy = null;
            for (int e = 0; e < eggs(); e++) {
                if (!inBox(e)) continue;
                BigInteger boiled = sum(e, 1, events);
                BigInteger by = kind == 0 ? BigInteger.ZERO : kind == 1 ? boiled.add(boiled).subtract(all).abs().negate()
                    : kind == 2 ? sum(e, 0, events) : boiled;
                int compared = bestBy == null ? 1 : by.compareTo(bestBy);
                if (compared > 0 || compared == 0 && kind == 4) { best = e; bestBy = by; }
            }
            return best;
        }

        int about(int trier, int what) {
            if (out(trier, 0, triers.size() - 1)) return UNKNOWN;
            if (out(what, 0, 1)) return OUTSIDE;
            return what == 0 ? triers.get(trier) : next(triers.get(trier));
        }

        int as(int trier, int kind) {
            if (out(trier, 0, triers.size() - 1)) return UNKNOWN;
            if (out(kind, 0, 4)) return OUTSIDE;
            int own = triers.get(trier);
            return kind == 0 || kind == own || kind == 3 && own == 4 ? trier : NONE;
        }

        List<Integer> fitting() {
            List<Integer> boxes = new ArrayList<>();
            for (int box = 0; box < 1 << eggs(); box++) if (weight(box, events).signum() > 0) boxes.add(box);
            return boxes;
        }

        int fits(int what) {
            if (out(what, 0, 2)) return OUTSIDE;
            if (eggs() == 0) return STATE;
            if (what == 0) return fitting().size();
            int bits = 0;
            for (int e = 0; e < eggs(); e++) if (sum(e, what == 1 ? 0 : 1, events).signum() == 0) bits |= 1 << e;
            return bits;
        }

        BigInteger seed;

        int draw(int of) {
            seed = seed.multiply(BigInteger.valueOf(1103515245)).add(BigInteger.valueOf(12345)).mod(BigInteger.ONE.shiftLeft(31));
            return seed.shiftRight(16).mod(BigInteger.valueOf(of)).intValueExact();
        }

        int mornings(int times, int first, int what) {
            if (out(times, 1, 40) || first < 0 || out(what, 0, 1)) return OUTSIDE;
            if (eggs() == 0) return STATE;
            seed = BigInteger.valueOf(first);
            List<Integer> boxes = fitting();
            int asMeant = 0;
            for (int i = 0; i < times; i++) {
                int box = boxes.get(draw(boxes.size()));
                for (int e = 0; e < eggs(); e++) {
                    int drawn = draw(10);
                    if ((box >> e & 1) == 1 ? drawn < number(3) : drawn >= number(4)) asMeant++;
                }
            }
            return what == 0 ? asMeant : seed.intValueExact();
        }

        int image() {
            if (eggs() == 0) return STATE;
            keptEvents = new ArrayList<>(events);
            keptTriers = triers.size();
            return boxed();
        }

        int restore() {
            if (keptEvents == null) return STATE;
            events = new ArrayList<>(keptEvents);
            triers = new ArrayList<>(triers.subList(0, keptTriers));
            return boxed();
        }

        int count(int what) {
            if (out(what, 0, 10)) return OUTSIDE;
            int[] all = {eggs(), number(1), number(3), number(4), number(5), boxed(), spins(-1, false), triers.size(),
                page.length(), read, done};
            return all[what];
        }

        long digest() {
            List<Long> all = new ArrayList<>();
            for (int e = 0; e < eggs(); e++) {
                for (int what = 0; what <= 4; what++) all.add((long) egg(e, what));
                for (int part = 0; part <= 1; part++) all.add(likely(e, part));
            }
            for (int t = 0; t < triers.size(); t++) for (int what = 0; what <= 1; what++) all.add((long) about(t, what));
            if (eggs() > 0) {
                all.add((long) likeliest());
                for (int what = 0; what <= 2; what++) all.add((long) fits(what));
            }
            for (int i = 0; i < page.length(); i++) all.add((long) page.charAt(i));
            for (int what = 0; what <= 10; what++) all.add((long) count(what));
            long h = 787;
            for (long number : all) h = 31 * h + number;
            return h;
        }
    }

    private static Random random;
    private static int wrong = 0;
    private static BoiledEggs real;
    private static Model model;
    private static List<String> told;

    private static void due(String call, long got, long want) {
        told.add(call + " = " + got);
        if (got != want && wrong++ < 10) {
            System.out.println(call + " answered " + got + ", due is " + want + ", behind " + told);
        }
    }

    /** Mostly within the bounds, now and then one beside them or far away. */
    private static int some(int least, int most) {
        int way = random.nextInt(40);
        if (way == 0) return least - 1;
        if (way == 1) return most + 1;
        if (way == 2) return random.nextInt();
        if (way == 3) return random.nextBoolean() ? Integer.MIN_VALUE : Integer.MAX_VALUE;
        return least + random.nextInt(most - least + 1);
    }

    private static String someKitchen() {
        int eggs = 2 + random.nextInt(5);
        StringBuilder text = new StringBuilder().append(eggs).append(random.nextInt(eggs + 1)).append(':');
        for (int i = 0; i < 3; i++) text.append(random.nextInt(3) == 0 ? random.nextInt(2) * 9 : random.nextInt(10));
        text.append(';');
        int habits = 1 + random.nextInt(4);
        for (int i = 0; i < eggs; i++) text.append(1 + random.nextInt(habits));
        if (random.nextInt(6) == 0) text.setCharAt(random.nextInt(text.length()), (char) (32 + random.nextInt(95)));
        if (random.nextInt(8) == 0) text.append((char) (48 + random.nextInt(6)));
        if (random.nextInt(10) == 0) text.setLength(random.nextInt(text.length()));
        return text.toString();
    }

    private static int writeKitchen() {
        String text = someKitchen();
        due("blank()", real.blank(), model.blank());
        for (int i = 0; i < text.length(); i++) letter(text.charAt(i));
        due("fault()", real.fault(), model.fault());
        due("kitchen()", real.kitchen(), model.kitchen());
        return text.length() + 3;
    }

    private static void letter(int code) {
        due("letter(" + code + ")", real.letter(code), model.letter(code));
    }

    private static void oneCall(int which) {
        int egg = some(0, Math.max(1, model.eggs() - 1));
        int trier = some(0, 3);
        boolean yes = random.nextBoolean();
        int a = some(0, 2), part = some(0, 1), raw = some(1, 6), kind = some(0, 4), tenths = some(1, 9), times = some(1, 40);
        int seed = some(0, Integer.MAX_VALUE - 2), five = some(0, 4), ten = some(0, 10), code = some(32, 126);
        switch (which) {
            case 0: letter(code); break;
            case 1: due("fault()", real.fault(), model.fault()); break;
            case 2: due("egg(" + egg + ", " + five + ")", real.egg(egg, five), model.egg(egg, five)); break;
            case 3: due("spin(" + egg + ", " + yes + ")", real.spin(egg, yes), model.spin(egg, yes)); break;
            case 4: due("stop(" + egg + ", " + a + ")", real.stop(egg, a), model.stop(egg, a)); break;
            case 5: due("crack(" + egg + ", " + yes + ")", real.crack(egg, yes), model.crack(egg, yes)); break;
            case 6: due("likely(" + egg + ", " + part + ")", real.likely(egg, part), model.likely(egg, part)); break;
            case 7: due("likeliest()", real.likeliest(), model.likeliest()); break;
            case 8: due("turning(" + egg + ", " + tenths + ")", real.turning(egg, tenths), model.turning(egg, tenths)); break;
            case 9: due("worst(" + raw + ", " + part + ")", real.worst(raw, part), model.worst(raw, part)); break;
            case 10: due("mean(" + raw + ", " + part + ")", real.mean(raw, part), model.mean(raw, part)); break;
            case 11: due("risk(" + egg + ", " + part + ")", real.risk(egg, part), model.risk(egg, part)); break;
            case 12: due("trier(" + kind + ")", real.trier(kind), model.trier(kind)); break;
            case 13: due("about(" + trier + ", " + part + ")", real.about(trier, part), model.about(trier, part)); break;
            case 14: due("as(" + trier + ", " + kind + ")", real.as(trier, kind), model.as(trier, kind)); break;
            case 15: due("fits(" + a + ")", real.fits(a), model.fits(a)); break;
            case 16: due("mornings(" + times + ", " + seed + ", " + part + ")", real.mornings(times, seed, part), model.mornings(times, seed, part)); break;
            case 17: due("image()", real.image(), model.image()); break;
            case 18: due("restore()", real.restore(), model.restore()); break;
            case 19: due("count(" + ten + ")", real.count(ten), model.count(ten)); break;
            case 20: due("kitchen()", real.kitchen(), model.kitchen()); break;
            default: due("digest()", real.digest(), model.digest());
        }
    }

    /** What is told comes seldom in a calm run, so that much is asked between. */
    private static int someCall(boolean calm) {
        int which = random.nextInt(23);
        if (calm && which >= 4 && which <= 5 && random.nextInt(4) != 0) return 3;
        return which;
    }

    private static void run(int number) {
        random = new Random(number);
        real = new BoiledEggs();
        model = new Model();
        told = new ArrayList<>();
        int calls = 0;
        if (number % 10 != 0) calls += writeKitchen();
        while (calls < CALLS) {
            if (random.nextInt(70) == 0) calls += writeKitchen();
            else oneCall(someCall(number % 2 == 0));
            calls++;
        }
        due("digest()", real.digest(), model.digest());
    }

    public static void main(String[] args) {
        Watch.begin();
        for (int number = 1; number <= RUNS; number++) run(number);
        System.out.println(wrong == 0 ? "all runs agree with the model" : wrong + " answers differ from the model's");
        if (wrong != 0) System.exit(1);
    }
}
