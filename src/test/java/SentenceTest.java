/** Promises 5 to 9: sign, blank, write, as, wrong. */
final class SentenceTest {
    public static void main(String[] args) {
        sign();
        blank();
        write();
        as();
        wrong();
        Due.end("SentenceTest");
    }

    static boolean isSign(int v) {
        return (v >= 0 && v < 4) || (v >= 10 && v < 15) || (v >= 20 && v < 41);
    }

    private static void sign() {
        TownKnows town = new TownKnows();
        for (int v = -3; v < 60; v++) {
            town.blank(5);
            Due.is("sign(5, " + v + ")", town.sign(5, v), isSign(v) ? 1 : Due.BEYOND);
        }
        Due.is("no such sign", town.sign(0, Integer.MAX_VALUE), Due.BEYOND);
        Due.is("no such sign", town.sign(0, Integer.MIN_VALUE), Due.BEYOND);
        Due.is("no such sentence", town.sign(6, 0), Due.BEYOND);
        Due.is("no such sentence", town.sign(-1, 0), Due.BEYOND);
        for (int i = 1; i <= 14; i++) {
            Due.is("sign " + i, town.sign(0, 3), i);
        }
        Due.is("full", town.sign(0, 3), Due.FULL);
        Due.is("beyond is asked first", town.sign(0, 4), Due.BEYOND);
        Due.is("fourteen", town.blank(0), 14);
    }

    private static void blank() {
        TownKnows town = new TownKnows();
        Due.write(town, 2, 0, 10);
        Due.is("blank", town.blank(2), 2);
        Due.is("blank", town.blank(2), 0);
        Due.is("no such sentence", town.blank(6), Due.BEYOND);
        Due.is("no such sentence", town.blank(-1), Due.BEYOND);
    }

    private static void write() {
        TownKnows town = new TownKnows();
        Due.is("missing", town.write(0, 0), Due.MISSING);
        Due.is("beyond ahead of missing", town.write(6, 0), Due.BEYOND);
        Due.is("no such sheet", town.write(0, 4), Due.BEYOND);
        Due.is("no such sheet", town.write(0, -1), Due.BEYOND);
        town.sheet(0, 16, 14);
        for (int i = 0; i < 14; i++) {
            town.put(0, i, i % 2 == 0 ? 40 : 1);
        }
        Due.write(town, 0, 3);
        Due.is("write", town.write(0, 0), 14);
        Due.is("the last sign", town.as(0, 13, 0), 1);
        Due.is("the first sign", town.as(0, 0, 0), 40);
        Due.is("it is full", town.sign(0, 0), Due.FULL);
        town.put(0, 13, 41);
        Due.is("one is no sign", town.write(1, 0), Due.BEYOND);
        Due.is("nothing changed", town.blank(1), 0);
        town.put(0, 13, -1);
        Due.is("one is no sign", town.write(1, 0), Due.BEYOND);
        town.put(0, 13, 0);
        Due.is("write", town.write(1, 0), 14);
        // later the sheet does not change the sentence
        town.put(0, 0, 2);
        Due.is("as it was then", town.as(1, 0, 0), 40);
        town.sheet(1, 8, 0);
        Due.is("an empty sheet", town.write(1, 1), 0);
        Due.is("an empty sentence", town.wrong(1), 0);
        Due.is("undo of write", town.undo(), 5);
        Due.is("undone", town.as(1, 0, 0), 40);
    }

    private static void as() {
        TownKnows town = new TownKnows();
        for (int v = 0; v <= 40; v++) {
            if (isSign(v)) {
                town.blank(0);
                town.sign(0, v);
                boolean one = v == 10 || v >= 20;
                boolean two = v >= 11 && v <= 14;
                Due.is("any " + v, town.as(0, 0, 0), v);
                Due.is("of one " + v, town.as(0, 0, 1), one ? v : Due.KIND);
                Due.is("of two " + v, town.as(0, 0, 2), two ? v : Due.KIND);
                Due.is("of a group " + v, town.as(0, 0, 3), v >= 32 ? v : Due.KIND);
            }
        }
        Due.is("no such kind", town.as(0, 0, 4), Due.BEYOND);
        Due.is("no such kind", town.as(0, 0, -1), Due.BEYOND);
        Due.is("no such place", town.as(0, 1, 0), Due.BEYOND);
        Due.is("no such place", town.as(0, -1, 0), Due.BEYOND);
        Due.is("no such place", town.as(1, 0, 0), Due.BEYOND);
        Due.is("no such sentence", town.as(6, 0, 0), Due.BEYOND);
        Due.is("no such sentence", town.as(-1, 0, 0), Due.BEYOND);
    }

    private static void wrong() {
        TownKnows town = new TownKnows();
        Due.is("empty", town.wrong(0), 0);
        Due.is("no such sentence", town.wrong(6), Due.BEYOND);
        Due.is("no such sentence", town.wrong(-1), Due.BEYOND);
        int[][] rows = {{0}, {0, 10}, {10}, {0, 11}, {0, 1}, {0, 1, 11}, {0, 1, 11, 12}, {0, 2, 11}, {3}, {0, 22},
            {0, 21}, {0, 26}, {0, 25}, {0, 30}, {0, 29}, {0, 40, 37, 34}, {0, 1, 14, 1}, {22}, {14, 3}};
        int[] due = {-1, -1, 0, 1, 2, -1, 3, 1, 0, 1, -1, 1, -1, 1, -1, -1, 4, 0, 0};
        for (int i = 0; i < rows.length; i++) {
            Due.write(town, 0, rows[i]);
            Due.is("wrong row " + i, town.wrong(0), due[i]);
        }
        // it hangs on who and what is there now
        Due.write(town, 1, 3, 23);
        Due.is("fact 3 is not there", town.wrong(1), 0);
        town.begin(2, 4, 0);
        Due.is("person 3 is not there", town.wrong(1), 1);
        town.begin(4, 4, 0);
        Due.is("all are there", town.wrong(1), -1);
        Due.is("that is no finding", town.all(7), 2);
    }
}
