/** Promises 1 to 4: a new object, begin, go, group. */
final class TownTest {
    public static void main(String[] args) {
        newObject();
        begin();
        beginClears();
        go();
        group();
        Due.end("TownTest");
    }

    private static void newObject() {
        TownKnows town = new TownKnows();
        int[] due = {2, 2, 4, 0, 0, 0, 0, 0};
        for (int what = 0; what < due.length; what++) {
            Due.is("all(" + what + ") of a new object", town.all(what), due[what]);
        }
        for (int w = 0; w < 4; w++) {
            Due.is("its number is the set", town.world(w, -1), w);
            Due.is("one cell of 0", town.world(w, 0), 0);
            Due.is("one cell of 1", town.world(w, 1), 0);
        }
        for (int s = 0; s < 6; s++) {
            Due.is("an empty sentence", town.wrong(s), 0);
        }
        for (int s = 0; s < 4; s++) {
            Due.is("a sheet is missing", town.put(s, 0, 0), Due.MISSING);
        }
        Due.is("no pacts", town.binding(), 0);
        Due.is("nothing to undo", town.undo(), Due.NONE);
        for (int g = 0; g < 3; g++) {
            Due.is("no group", town.group(g, 0), 0);
        }
        for (int p = 0; p < 2; p++) {
            Due.is("street 0", town.go(p, 0), 0);
            Due.is("no oaths", town.swear(p, 1), 1);
        }
    }

    private static void begin() {
        TownKnows town = new TownKnows();
        for (int n = 1; n <= 4; n++) {
            for (int m = 1; m <= 4; m++) {
                int real = (1 << m) - 1;
                Due.is("begin", town.begin(n, m, real), 1 << m);
                Due.is("persons", town.all(0), n);
                Due.is("facts", town.all(1), m);
                Due.is("worlds", town.all(2), 1 << m);
                Due.is("the real one", town.all(3), real);
                Due.is("its facts", town.world(real, -1), real);
                Due.is("its cell", town.world(real, n - 1), 0);
            }
        }
        int[][] beyond = {{0, 1, 0}, {5, 1, 0}, {1, 0, 0}, {1, 5, 0}, {1, 1, -1}, {1, 1, 2}, {1, 4, 16}, {-1, 1, 0},
            {1, -1, 0}, {1, 32, 0}, {Integer.MIN_VALUE, 1, 0}, {1, Integer.MAX_VALUE, 0}, {4, 4, Integer.MAX_VALUE}};
        int findings = town.all(7);
        for (int[] b : beyond) {
            Due.is("begin beyond", town.begin(b[0], b[1], b[2]), Due.BEYOND);
            findings++;
            Due.is("findings", town.all(7), findings);
        }
        Due.is("nothing changed", town.all(3), 15);
        Due.is("the latest 12 are kept", town.undo(), 11);
    }

    private static void beginClears() {
        TownKnows town = new TownKnows();
        Due.write(town, 0, 0);
        town.group(2, 9);
        town.go(1, 3);
        town.swear(0, 1);
        Due.is("lie", town.lie(0, 0), 0);
        Due.is("pact", town.pact(0, 0), 0);
        Due.is("mark", town.mark(), 0);
        Due.is("begin", town.begin(2, 2, 2), 4);
        Due.is("no claims", town.all(4), 0);
        Due.is("no pacts", town.all(5), 0);
        Due.is("no marks", town.all(6), 0);
        Due.is("no oaths", town.swear(0, 1), 1);
        Due.is("street 0", town.go(1, 1), 0);
        Due.is("a sentence stays", town.as(0, 0, 0), 0);
        Due.is("a group stays", town.group(2, 0), 9);
        Due.is("findings are counted ever", town.all(7), 0);
    }

    private static void go() {
        TownKnows town = new TownKnows();
        Due.is("go", town.go(0, 3), 0);
        Due.is("go", town.go(0, 1), 3);
        Due.is("go", town.go(1, 2), 0);
        Due.is("go", town.go(0, 1), 1);
        Due.is("no such person", town.go(2, 0), Due.BEYOND);
        Due.is("no such person", town.go(-1, 0), Due.BEYOND);
        Due.is("no such street", town.go(0, 4), Due.BEYOND);
        Due.is("no such street", town.go(0, -1), Due.BEYOND);
        Due.is("nothing changed", town.go(0, 0), 1);
        town.begin(4, 1, 0);
        Due.is("person 3", town.go(3, 3), 0);
        Due.is("no person 4", town.go(4, 3), Due.BEYOND);
    }

    private static void group() {
        TownKnows town = new TownKnows();
        Due.is("group", town.group(0, 15), 0);
        Due.is("group", town.group(0, 3), 15);
        Due.is("group", town.group(2, 1), 0);
        Due.is("no such group", town.group(3, 1), Due.BEYOND);
        Due.is("no such group", town.group(-1, 1), Due.BEYOND);
        Due.is("no such set", town.group(0, 16), Due.BEYOND);
        Due.is("no such set", town.group(0, -1), Due.BEYOND);
        Due.is("nothing changed", town.group(0, 0), 3);
        // persons that are not there count for nothing: of a group of none it is known together at all worlds
        Due.write(town, 0, 0, 38);
        Due.write(town, 1, 0, 10, 0, 12, 38);
        town.group(0, 12);
        Due.is("fact 0 at all", town.many(0), 0);
        Due.is("what is always so", town.many(1), 4);
        Due.write(town, 2, 0, 32);
        Due.is("each of none knows", town.many(2), 4);
        Due.write(town, 3, 0, 35);
        Due.is("common in none: just there", town.many(3), 2);
    }
}
