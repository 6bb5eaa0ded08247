/** Promises 30 to 34: sheet, put, copy, undo, all. */
final class SheetTest {
    public static void main(String[] args) {
        sheet();
        put();
        copy();
        undo();
        undoBringsBack();
        all();
        Due.end("SheetTest");
    }

    private static void sheet() {
        TownKnows town = new TownKnows();
        Due.is("sheet", town.sheet(0, 8, 14), 14);
        Due.is("sheet", town.sheet(3, 16, 1), 1);
        Due.is("sheet", town.sheet(1, 32, 0), 0);
        Due.is("no such sheet", town.sheet(4, 8, 1), Due.BEYOND);
        Due.is("no such sheet", town.sheet(-1, 8, 1), Due.BEYOND);
        Due.is("no such bits", town.sheet(0, 7, 1), Due.BEYOND);
        Due.is("no such bits", town.sheet(0, 64, 1), Due.BEYOND);
        Due.is("no such bits", town.sheet(0, -8, 1), Due.BEYOND);
        Due.is("beyond ahead of size", town.sheet(0, 24, -1), Due.BEYOND);
        Due.is("size", town.sheet(0, 8, -1), Due.SIZE);
        Due.is("size", town.sheet(0, 8, Integer.MIN_VALUE), Due.SIZE);
        Due.is("above 14", town.sheet(0, 8, 15), Due.BEYOND);
        Due.is("nothing changed", town.write(0, 0), 14);
        Due.is("size of a missing one", town.sheet(0, 0, -1), Due.SIZE);
        Due.is("beyond of a missing one", town.sheet(0, 0, 15), Due.BEYOND);
        Due.is("missing", town.sheet(0, 0, 5), 0);
        Due.is("it is missing", town.put(0, 0, 0), Due.MISSING);
        Due.is("missing", town.sheet(3, 0, 0), 0);
        Due.is("it is missing", town.write(0, 3), Due.MISSING);
        town.sheet(0, 8, 2);
        town.put(0, 1, 40);
        Due.is("anew", town.sheet(0, 8, 3), 3);
        Due.is("write", town.write(0, 0), 3);
        Due.is("all 0", town.as(0, 1, 0), 0);
    }

    private static void put() {
        TownKnows town = new TownKnows();
        Due.is("no such sheet ahead of missing", town.put(4, 0, 0), Due.BEYOND);
        Due.is("no such sheet", town.put(-1, 0, 0), Due.BEYOND);
        Due.is("missing ahead of the number", town.put(0, -1, 0), Due.MISSING);
        town.sheet(0, 8, 1);
        town.sheet(1, 16, 1);
        town.sheet(2, 32, 1);
        town.sheet(3, 8, 0);
        Due.is("no such number", town.put(0, 1, 0), Due.BEYOND);
        Due.is("no such number", town.put(0, -1, 0), Due.BEYOND);
        Due.is("no such number", town.put(3, 0, 0), Due.BEYOND);
        Due.is("no such number", town.put(0, Integer.MAX_VALUE, 0), Due.BEYOND);
        int[] values = {13, 256 + 13, 65536 + 13, -256 + 13, Integer.MIN_VALUE + 13, 255, -1};
        boolean[][] signs = {{true, true, true}, {true, false, false}, {true, true, false}, {true, false, false},
            {true, true, false}, {false, false, false}, {false, false, false}};
        for (int i = 0; i < values.length; i++) {
            for (int s = 0; s < 3; s++) {
                Due.is("put", town.put(s, 0, values[i]), 0);
                Due.is("lowest bits of " + values[i] + " in " + s, town.write(0, s), signs[i][s] ? 1 : Due.BEYOND);
                if (signs[i][s]) {
                    Due.is("the number", town.as(0, 0, 0), 13);
                }
            }
        }
    }

    private static void lay(TownKnows town, int s, int... numbers) {
        town.sheet(s, 8, numbers.length);
        for (int i = 0; i < numbers.length; i++) {
            town.put(s, i, numbers[i]);
        }
    }

    private static void reads(TownKnows town, int s, int... numbers) {
        Due.is("write", town.write(5, s), numbers.length);
        for (int i = 0; i < numbers.length; i++) {
            Due.is("number " + i, town.as(5, i, 0), numbers[i]);
        }
    }

    private static void copy() {
        TownKnows town = new TownKnows();
        Due.is("no such sheet", town.copy(-1, 0, 0, 0, 0), Due.BEYOND);
        Due.is("no such sheet ahead of missing", town.copy(0, 0, 4, 0, 0), Due.BEYOND);
        Due.is("missing", town.copy(0, 0, 1, 0, 0), Due.MISSING);
        lay(town, 0, 10, 11, 12, 13);
        Due.is("the other is missing", town.copy(0, 0, 1, 0, 0), Due.MISSING);
        Due.is("the one is missing", town.copy(1, 0, 0, 0, 0), Due.MISSING);
        town.sheet(1, 16, 3);
        Due.is("other bits ahead of beyond", town.copy(0, 9, 1, 0, 1), Due.KIND);
        lay(town, 1, 0, 1, 2);
        Due.is("copy", town.copy(0, 1, 1, 0, 2), 2);
        reads(town, 1, 11, 12, 2);
        reads(town, 0, 10, 11, 12, 13);
        Due.is("upwards on itself", town.copy(0, 0, 0, 1, 3), 3);
        reads(town, 0, 10, 10, 11, 12);
        Due.is("downwards on itself", town.copy(0, 1, 0, 0, 3), 3);
        reads(town, 0, 10, 11, 12, 12);
        Due.is("none", town.copy(0, 4, 1, 3, 0), 0);
        int[][] beyond = {{0, 4, 1, 0, 1}, {0, 0, 1, 3, 1}, {0, 0, 1, 0, 4}, {0, -1, 1, 0, 1}, {0, 0, 1, -1, 1},
            {0, 0, 1, 0, -1}, {0, 5, 1, 0, 0}, {0, 0, 1, 4, 0}, {0, Integer.MAX_VALUE, 1, 0, 1},
            {0, 1, 1, 1, Integer.MAX_VALUE}, {0, 0, 1, Integer.MAX_VALUE, Integer.MAX_VALUE},
            {0, Integer.MIN_VALUE, 1, 0, Integer.MIN_VALUE}};
        for (int[] b : beyond) {
            Due.is("copy beyond", town.copy(b[0], b[1], b[2], b[3], b[4]), Due.BEYOND);
        }
        reads(town, 1, 11, 12, 2);
    }

    private static void undo() {
        TownKnows town = new TownKnows();
        Due.is("none", town.undo(), Due.NONE);
        for (int i = 1; i <= 14; i++) {
            town.sign(0, 0);
        }
        for (int left = 11; left >= 0; left--) {
            Due.is("undo", town.undo(), left);
        }
        Due.is("only 12 are kept", town.undo(), Due.NONE);
        Due.is("two signs are left", town.blank(0), 2);
        Due.is("one can be undone", town.undo(), 0);
        // what changed nothing is kept, too; what answered a finding, asked or was about sheets is not
        town.blank(1);
        town.go(0, 0);
        town.group(0, 0);
        town.sign(0, 99);
        town.holds(0);
        town.sheet(0, 8, 1);
        town.put(0, 0, 3);
        town.all(2);
        town.binding();
        Due.is("three acts", town.undo(), 2);
        Due.is("two", town.undo(), 1);
        Due.is("one", town.undo(), 0);
        Due.is("none", town.undo(), Due.NONE);
        Due.is("sheets are not undone", town.write(0, 0), 1);
        Due.is("nor are findings", town.all(7), 5);
    }

    private static void undoBringsBack() {
        TownKnows town = new TownKnows();
        town.begin(2, 2, 3);
        Due.write(town, 0, 0);
        Due.write(town, 1, 1);
        town.see(0, 0);
        town.see(1, 1);
        town.mark();
        Due.is("openly", town.openly(1, 0, 1), 2);
        Due.is("undo openly", town.undo(), 8);
        Due.is("four worlds", town.all(2), 4);
        Due.is("cry", town.cry(0, 0), 2);
        Due.is("undo cry", town.undo(), 8);
        Due.is("four worlds", town.all(2), 4);
        Due.is("tell", town.tell(0, 1, 0), 2);
        Due.is("undo tell", town.undo(), 8);
        Due.is("four worlds", town.all(2), 4);
        Due.is("lie", town.lie(0, 1), 0);
        Due.is("undo lie", town.undo(), 8);
        Due.is("no claim", town.all(4), 0);
        Due.is("swear", town.swear(1, 1), 1);
        Due.is("undo swear", town.undo(), 8);
        Due.is("swear again", town.swear(1, 1), 1);
        town.undo();
        Due.is("pact", town.pact(0, 0), 0);
        Due.is("undo pact", town.undo(), 8);
        Due.is("no pact", town.all(5), 0);
        Due.is("go", town.go(1, 2), 0);
        town.undo();
        Due.is("group", town.group(1, 5), 0);
        town.undo();
        Due.is("blank", town.blank(0), 1);
        town.undo();
        Due.is("begin", town.begin(4, 4, 9), 16);
        Due.is("no mark", town.all(6), 0);
        Due.is("undo begin", town.undo(), 8);
        Due.is("two persons", town.all(0), 2);
        Due.is("two facts", town.all(1), 2);
        Due.is("the real one", town.all(3), 3);
        Due.is("the mark", town.all(6), 1);
        Due.is("at the mark", town.then(0, 0), 1);
        Due.is("the street", town.go(1, 0), 0);
        Due.is("the group", town.group(1, 0), 0);
        Due.is("the sentence", town.as(0, 0, 0), 0);
        town.undo();
        town.undo();
        Due.is("undo mark", town.undo(), 7);
        Due.is("no mark", town.all(6), 0);
        Due.is("undo see", town.undo(), 6);
        Due.is("one cell of 1", town.world(3, 1), 0);
        Due.is("two cells of 0", town.world(3, 0), 1);
    }

    private static void all() {
        TownKnows town = new TownKnows();
        Due.is("no such what", town.all(8), Due.BEYOND);
        Due.is("no such what", town.all(-1), Due.BEYOND);
        Due.is("both are counted", town.all(7), 2);
        town.begin(3, 4, 6);
        Due.write(town, 0, 0);
        town.lie(1, 0);
        town.lie(1, 0);
        town.pact(0, 0);
        town.mark();
        town.mark();
        town.mark();
        int[] due = {3, 4, 16, 6, 2, 1, 3, 2};
        for (int what = 0; what < due.length; what++) {
            Due.is("all(" + what + ")", town.all(what), due[what]);
        }
    }
}
