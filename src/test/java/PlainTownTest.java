import java.util.Map;
import java.util.Random;
import java.util.TreeMap;

/** Long runs of calls, with fixed seeds, on the class and on PlainTown: each answer must be the same. */
final class PlainTownTest {
    private static final int MOST_CALLS = 512;
    private static final int MOST_OF_A_STEP = 100;
    private static final int[] EDGES = {-1, 64, 100, Integer.MIN_VALUE, Integer.MAX_VALUE, -100001};

    private final Random random;
    private final TownKnows town = new TownKnows();
    private final PlainTown plain = new PlainTown();
    private final Map<String, Integer> met;
    private final int run;
    private int calls = 0;
    /** Calls of the class in this run, looks too: an object has 512. */
    private int used = 0;
    private int n = 2;
    private int m = 2;

    private PlainTownTest(int run, Map<String, Integer> met) {
        this.run = run;
        this.met = met;
        this.random = new Random(run * 7919L + 17);
    }

    public static void main(String[] args) {
        int runs = args.length > 0 ? Integer.parseInt(args[0]) : 120;
        int first = args.length > 1 ? Integer.parseInt(args[1]) : 0;
        Map<String, Integer> met = new TreeMap<>();
        for (int run = first; run < first + runs; run++) {
            new PlainTownTest(run, met).go();
        }
        for (String each : EACH_FINDING) {
            Due.holds("the runs met " + each, met.containsKey(each));
        }
        if (args.length > 0) {
            System.out.println(met);
        }
        Due.end("PlainTownTest");
    }

    private static final String[] EACH_FINDING = {
        "begin -100001", "go -100001", "group -100001", "sign -100001", "sign -100005", "blank -100001",
        "write -100001", "write -100002", "as -100001", "as -100004", "wrong -100001", "see -100001",
        "tell -100001", "tell -100003", "tell -100004", "tell -100005", "tell -100007", "tell -100008",
        "tell -100009", "openly -100001", "openly -100003", "openly -100004", "openly -100008",
        "openly -100009", "cry -100001", "cry -100004", "cry -100008", "cry -100009", "lie -100001",
        "lie -100004", "lie -100005", "lie -100008", "lie -100009", "clashed -100001", "swear -100001",
        "swear -100004", "pact -100001", "pact -100004", "pact -100005", "holds -100001", "holds -100004",
        "many -100001", "many -100004", "fails -100001", "fails -100004", "fails -100006", "like -100001",
        "like -100004", "world -100001", "known -100001", "lessons -100001", "lessons -100004",
        "lessons -100006", "lesson -100001", "lesson -100004", "lesson -100006", "mark -100005",
        "then -100001", "then -100004", "since -100001", "since -100004", "since -100006",
        "sheet -100001", "sheet -100003", "put -100001", "put -100002", "copy -100001", "copy -100002",
        "copy -100004", "undo -100006", "all -100001"};

    private void due(String name, String given, int got, int want) {
        calls++;
        used++;
        met.merge(want < -99999 ? name + " " + want : name, 1, Integer::sum);
        Due.is("run " + run + " call " + calls + ": " + name + "(" + given + ")", got, want);
    }

    private void go() {
        boolean crowded = run % 5 == 0;
        begin(crowded);
        for (int s = 0; s < 6; s++) {
            formula(s, 1 + random.nextInt(6));
        }
        for (int s = 0; s < 4; s++) {
            int bits = random.nextInt(5) == 0 ? 0 : 8 << random.nextInt(3);
            due("sheet", s + ", " + bits + ", 5", town.sheet(s, bits, 5), plain.sheet(s, bits, 5));
        }
        if (crowded) {
            gossip();
        }
        while (used < MOST_CALLS - MOST_OF_A_STEP) {
            int what = random.nextInt(100);
            if (what < (crowded ? 1 : 3)) {
                begin(crowded);
            } else if (what < 13) {
                sentence();
            } else if (what < 55) {
                act(crowded);
            } else if (what < 91) {
                ask();
            } else if (what < 98) {
                paper();
            } else {
                undo();
            }
            if (random.nextInt(8) == 0) {
                glance();
            }
        }
        look();
        Due.holds("run " + run + " kept to 512 calls", used <= MOST_CALLS);
    }

    /** Each sees a fact and tells others of it, so that worlds soon are many. */
    private void gossip() {
        for (int p = 0; p < n; p++) {
            due("see", p + ", " + p % m, town.see(p, p % m), plain.see(p, p % m));
            due("blank", "" + p, town.blank(p), plain.blank(p));
            due("sign", p + ", " + p % m, town.sign(p, p % m), plain.sign(p, p % m));
        }
        for (int i = 0; i < 8; i++) {
            int a = random.nextInt(n);
            tell(a, other(a), a);
        }
    }

    /** Mostly 0 to below most, seldom something beyond. */
    private int some(int most) {
        int odds = random.nextInt(60);
        if (odds == 0) {
            return EDGES[random.nextInt(EDGES.length)];
        }
        return odds == 1 ? most : odds == 2 ? -1 : random.nextInt(most);
    }

    private int person() {
        return some(n);
    }

    private void begin(boolean crowded) {
        int a = crowded ? 4 : random.nextInt(8) == 0 ? some(5) : 1 + random.nextInt(4);
        int b = crowded ? 3 + random.nextInt(2) : random.nextInt(8) == 0 ? some(5) : 1 + random.nextInt(4);
        int c = some(b > 0 && b < 5 ? 1 << b : 4);
        due("begin", a + ", " + b + ", " + c, town.begin(a, b, c), plain.begin(a, b, c));
        n = plain.all(0);
        m = plain.all(1);
        seen("all(0)", town.all(0), n);
        seen("all(1)", town.all(1), m);
        for (int p = 0; p < n; p++) {
            if (random.nextInt(3) > 0) {
                int f = random.nextInt(m);
                due("see", p + ", " + f, town.see(p, f), plain.see(p, f));
                int street = random.nextInt(2);
                due("go", p + ", " + street, town.go(p, street), plain.go(p, street));
            }
        }
    }

    private void sentence() {
        int s = some(6);
        int kind = random.nextInt(40);
        if (kind == 0) {
            int v = some(41);
            due("sign", s + ", " + v, town.sign(s, v), plain.sign(s, v));
        } else if (kind == 1) {
            due("blank", "" + s, town.blank(s), plain.blank(s));
        } else if (kind == 2) {
            int sheet = some(4);
            due("write", s + ", " + sheet, town.write(s, sheet), plain.write(s, sheet));
        } else if (kind == 3) {
            for (int i = 0; i < 15 && random.nextInt(14) > 0; i++) {
                int v = new int[] {0, 10, 20, 24, 28, 32, 35, 38}[random.nextInt(8)];
                due("sign", s + ", " + v, town.sign(s, v), plain.sign(s, v));
            }
        } else if (kind < 12) {
            knowing(s);
        } else {
            formula(s, random.nextInt(3) == 0 ? 1 : 1 + random.nextInt(14));
        }
    }

    /** That one knows whether a fact is so, and another one another: what lessons can make so. */
    private void knowing(int s) {
        due("blank", "" + s, town.blank(s), plain.blank(s));
        for (int i = 0; i < 2; i++) {
            int f = random.nextInt(m);
            int p = 20 + random.nextInt(n);
            for (int v : new int[] {f, p, f, 10, p, 12}) {
                due("sign", s + ", " + v, town.sign(s, v), plain.sign(s, v));
            }
        }
        due("sign", s + ", 11", town.sign(s, 11), plain.sign(s, 11));
        int v = 32 + random.nextInt(9);
        if (random.nextInt(3) == 0) {
            due("sign", s + ", " + v, town.sign(s, v), plain.sign(s, v));
        }
        due("lessons", "" + s, town.lessons(s), plain.lessons(s));
        due("lesson", s + ", 0", town.lesson(s, 0), plain.lesson(s, 0));
        due("lesson", s + ", 1", town.lesson(s, 1), plain.lesson(s, 1));
    }

    private void formula(int s, int length) {
        due("blank", "" + s, town.blank(s), plain.blank(s));
        int stand = 0;
        for (int i = 0; i < length; i++) {
            int left = length - i;
            int v = sign(stand, left);
            stand += v <= 3 ? 1 : v >= 11 && v <= 14 ? -1 : 0;
            due("sign", s + ", " + v, town.sign(s, v), plain.sign(s, v));
        }
    }

    private int sign(int stand, int left) {
        if (stand >= 2 && (stand > left || random.nextInt(3) == 0)) {
            return 11 + random.nextInt(4);
        }
        if (stand == 0 || (stand < left - 1 && random.nextInt(3) == 0)) {
            return random.nextInt(30) == 0 ? random.nextInt(4) : random.nextInt(m);
        }
        int kind = random.nextInt(7);
        if (kind == 0) {
            return 10;
        }
        if (kind < 4) {
            return 20 + 4 * (kind - 1) + (random.nextInt(40) == 0 ? random.nextInt(4) : random.nextInt(n));
        }
        return 32 + random.nextInt(9);
    }

    private int other(int p) {
        return p >= 0 && n > 1 && random.nextInt(20) > 0 ? (p + 1 + random.nextInt(n - 1)) % n : person();
    }

    private void act(boolean crowded) {
        int p = person();
        int s = some(6);
        boolean liars = run % 3 == 1;
        switch (crowded && random.nextInt(2) == 0 ? 5 : liars && random.nextInt(3) == 0 ? 8 : random.nextInt(16)) {
            case 0:
            case 1:
                int f = some(m);
                due("see", p + ", " + f, town.see(p, f), plain.see(p, f));
                break;
            case 2:
            case 3:
            case 4:
            case 5:
                tell(p, other(p), s);
                break;
            case 6:
                int b = other(p);
                due("openly", p + ", " + b + ", " + s, town.openly(p, b, s), plain.openly(p, b, s));
                break;
            case 7:
                due("cry", p + ", " + s, town.cry(p, s), plain.cry(p, s));
                break;
            case 8:
            case 9:
                due("lie", p + ", " + s, town.lie(p, s), plain.lie(p, s));
                break;
            case 10:
                if (random.nextInt(3) == 0) {
                    int fact = some(m);
                    due("swear", p + ", " + fact, town.swear(p, fact), plain.swear(p, fact));
                }
                break;
            case 11:
            case 14:
            case 15:
                int g = some(3);
                due("pact", s + ", " + g, town.pact(s, g), plain.pact(s, g));
                break;
            case 12:
                int street = random.nextInt(10) == 0 ? some(4) : random.nextInt(2);
                due("go", p + ", " + street, town.go(p, street), plain.go(p, street));
                break;
            default:
                int group = some(3);
                int set = some(16);
                due("group", group + ", " + set, town.group(group, set), plain.group(group, set));
                break;
        }
    }

    private void tell(int a, int b, int s) {
        due("tell", a + ", " + b + ", " + s, town.tell(a, b, s), plain.tell(a, b, s));
        seen("all(2)", town.all(2), plain.all(2));
    }

    private void ask() {
        int p = person();
        int s = some(6);
        switch (random.nextInt(15)) {
            case 0:
                due("holds", "" + s, town.holds(s), plain.holds(s));
                break;
            case 1:
                due("many", "" + s, town.many(s), plain.many(s));
                break;
            case 2:
                due("fails", "" + s, town.fails(s), plain.fails(s));
                break;
            case 3:
                int t = some(6);
                due("like", s + ", " + t, town.like(s, t), plain.like(s, t));
                break;
            case 4:
                int w = some(plain.all(2));
                int who = random.nextInt(3) == 0 ? -1 : p;
                due("world", w + ", " + who, town.world(w, who), plain.world(w, who));
                break;
            case 5:
                boolean whether = random.nextBoolean();
                due("known", p + ", " + whether, town.known(p, whether), plain.known(p, whether));
                break;
            case 6:
                due("lessons", "" + s, town.lessons(s), plain.lessons(s));
                break;
            case 7:
                int i = some(3);
                due("lesson", s + ", " + i, town.lesson(s, i), plain.lesson(s, i));
                break;
            case 8:
                int claim = some(Math.max(1, plain.all(4)));
                due("clashed", claim + ", " + p, town.clashed(claim, p), plain.clashed(claim, p));
                break;
            case 9:
                due("binding", "", town.binding(), plain.binding());
                break;
            case 10:
                due("wrong", "" + s, town.wrong(s), plain.wrong(s));
                break;
            case 11:
                int place = some(15);
                int kind = some(4);
                due("as", s + ", " + place + ", " + kind, town.as(s, place, kind), plain.as(s, place, kind));
                break;
            default:
                marks(s);
                break;
        }
    }

    private void marks(int s) {
        int kind = random.nextInt(5);
        if (kind == 0) {
            for (int i = random.nextInt(10) == 0 ? 0 : 6; i < 7; i++) {
                due("mark", "", town.mark(), plain.mark());
            }
        } else if (kind < 4) {
            int mark = some(Math.max(1, plain.all(6)));
            due("then", mark + ", " + s, town.then(mark, s), plain.then(mark, s));
        } else {
            due("since", "" + s, town.since(s), plain.since(s));
        }
    }

    private void paper() {
        int s = some(4);
        int t = some(4);
        switch (random.nextInt(8)) {
            case 0:
                int bits = new int[] {0, 8, 8, 8, 16, 32, 7, -8}[random.nextInt(8)];
                int size = some(15);
                due("sheet", s + ", " + bits + ", " + size, town.sheet(s, bits, size), plain.sheet(s, bits, size));
                break;
            case 1:
            case 2:
                int from = random.nextInt(3);
                int to = random.nextInt(3);
                int count = some(6);
                due("copy", s + ", " + from + ", " + t + ", " + to + ", " + count,
                    town.copy(s, from, t, to, count), plain.copy(s, from, t, to, count));
                break;
            case 3:
                due("write", t + ", " + s, town.write(t, s), plain.write(t, s));
                break;
            default:
                int i = some(8);
                int v = random.nextInt(6) == 0 ? some(300) + (random.nextInt(4) << 8) : random.nextInt(4) * 10;
                due("put", s + ", " + i + ", " + v, town.put(s, i, v), plain.put(s, i, v));
                break;
        }
    }

    private void undo() {
        int times = random.nextInt(5) == 0 ? 13 : 1 + random.nextInt(2);
        for (int i = 0; i < times; i++) {
            due("undo", "", town.undo(), plain.undo());
        }
        n = plain.all(0);
        m = plain.all(1);
        glance();
    }

    private void seen(String what, int got, int want) {
        used++;
        Due.is("run " + run + " behind call " + calls + ": " + what, got, want);
    }

    /** How many there are of all, and a few worlds. */
    private void glance() {
        int what = some(8);
        due("all", "" + what, town.all(what), plain.all(what));
        for (int i = 2; i <= 7; i++) {
            seen("all(" + i + ")", town.all(i), plain.all(i));
        }
        for (int i = 0; i < 4; i++) {
            world(random.nextInt(plain.all(2)), random.nextInt(n + 1) - 1);
        }
    }

    private void world(int w, int p) {
        seen("world(" + w + ", " + p + ")", town.world(w, p), plain.world(w, p));
    }

    /** The town, world by world, as far as calls are left. */
    private void look() {
        for (int i = 0; i <= 7; i++) {
            seen("all(" + i + ")", town.all(i), plain.all(i));
        }
        int all = plain.all(2) * (n + 1);
        int from = random.nextInt(all);
        for (int i = 0; i < all && used < MOST_CALLS; i++) {
            int place = (from + i) % all;
            world(place / (n + 1), place % (n + 1) - 1);
        }
    }
}
