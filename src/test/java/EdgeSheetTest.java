/** The boundaries of Terms 7 and of promises 30 to 32: sheet, put, copy. */
final class EdgeSheetTest {
    private static final int[] VALUES = {0, 3, 4, 10, 20, 40, 41, 127, 128, 255, 256, 266, 296, 297, 32767, 32768, 65535,
        65536, 65546, 65576, 65577, 1 << 24, (1 << 24) + 40, -1, -128, -246, -236, -216, -215, -256, -32768, -65526,
        -65536, -65496, Integer.MIN_VALUE, Integer.MIN_VALUE + 20, Integer.MAX_VALUE, Integer.MAX_VALUE - 235};

    public static void main(String[] args) {
        sheetsThatAreNotThere();
        sheetsThatAreThere();
        bitsOfASheet();
        sizesOfASheet();
        sheetFindingsInOrder();
        sheetMissing();
        sheetAllZero();
        putFindingsInOrder();
        putPlaces();
        putLowestBits();
        putOneAlone();
        copyFindingsInOrder();
        copyMissing();
        copyBits();
        copyBeyondASheet();
        copyJustAsMany();
        copyNone();
        copyWithinOneSheet();
        copyLeavesTheRest();
        Due.end("EdgeSheetTest");
    }

    /** Reads a sheet's numbers through a sentence; all must be signs. */
    private static void reads(TownKnows town, String what, int s, int... numbers) {
        Due.is(what + ": how many", town.write(5, s), numbers.length);
        for (int i = 0; i < numbers.length; i++) {
            Due.is(what + ": number " + i, town.as(5, i, 0), numbers[i]);
        }
    }

    private static void sheetsThatAreNotThere() {
        Due.says("Terms 7: SHEETS 0 to 3; no such sheet: BEYOND");
        Twin rich = new Twin(Rich::lay);
        for (int s : Due.outside(0, 3)) {
            rich.refuses("sheet(" + s + ", 8, 1)", Due.BEYOND, t -> t.sheet(s, 8, 1));
            rich.refuses("sheet(" + s + ", 0, 0)", Due.BEYOND, t -> t.sheet(s, 0, 0));
            rich.refuses("put(" + s + ", 0, 0)", Due.BEYOND, t -> t.put(s, 0, 0));
            rich.refuses("copy from " + s, Due.BEYOND, t -> t.copy(s, 0, 0, 0, 1));
            rich.refuses("copy to " + s, Due.BEYOND, t -> t.copy(0, 0, s, 0, 1));
            rich.refuses("copy none from " + s, Due.BEYOND, t -> t.copy(s, 0, 0, 0, 0));
            rich.refuses("copy none to " + s, Due.BEYOND, t -> t.copy(0, 0, s, 0, 0));
        }
    }

    private static void sheetsThatAreThere() {
        Due.says("Terms 7: SHEETS 0 to 3, MISSING (all, at first)");
        TownKnows town = new TownKnows();
        for (int s = 0; s < 4; s++) {
            Due.is("put", town.put(s, 0, 0), Due.MISSING);
            Due.is("write", town.write(0, s), Due.MISSING);
            Due.is("copy", town.copy(s, 0, s, 0, 0), Due.MISSING);
        }
        for (int s = 0; s < 4; s++) {
            Due.is("sheet", town.sheet(s, 8, s + 1), s + 1);
            Due.is("put", town.put(s, s, s), 0);
        }
        for (int s = 0; s < 4; s++) {
            Due.is("each has its own numbers", town.write(0, s), s + 1);
            Due.is("each has its own numbers", town.as(0, s, 0), s);
        }
    }

    private static void bitsOfASheet() {
        Due.says("Promise 30: of 8, 16 or 32 bits; bits 0: it is MISSING. BEYOND: no such bits");
        for (int bits = -70; bits <= 130; bits++) {
            TownKnows town = new TownKnows();
            boolean some = bits == 8 || bits == 16 || bits == 32;
            Due.is("sheet(0, " + bits + ", 2)", town.sheet(0, bits, 2), some ? 2 : bits == 0 ? 0 : Due.BEYOND);
            Due.is("it is there", town.put(0, 1, 0), some ? 0 : Due.MISSING);
        }
        Twin rich = new Twin(Rich::lay);
        for (int bits : new int[] {-1, 1, 7, 9, 15, 17, 24, 31, 33, 64, -8, -16, -32, 256, 264, 65536, 65544,
            Integer.MIN_VALUE, Integer.MIN_VALUE + 8, Integer.MAX_VALUE}) {
            rich.refuses("sheet(0, " + bits + ", 1)", Due.BEYOND, t -> t.sheet(0, bits, 1));
        }
    }

    private static void sizesOfASheet() {
        Due.says("Promise 30: SIZE: n is below 0. BEYOND: n is above 14");
        Twin rich = new Twin(Rich::lay);
        for (int width : new int[] {0, 8, 16, 32}) {
            int bits = width;
            for (int n = 0; n <= 14; n++) {
                TownKnows town = new TownKnows();
                Due.is("sheet(0, " + bits + ", " + n + ")", town.sheet(0, bits, n), bits == 0 ? 0 : n);
                Due.is("no number " + n, town.put(0, n, 0), bits == 0 ? Due.MISSING : Due.BEYOND);
                Due.is("the last number", town.put(0, n - 1, 0), bits == 0 ? Due.MISSING : n == 0 ? Due.BEYOND : 0);
            }
            for (int n : new int[] {-1, -2, -256, Integer.MIN_VALUE, Integer.MIN_VALUE + 1}) {
                rich.refuses("sheet(0, " + bits + ", " + n + ")", Due.SIZE, t -> t.sheet(0, bits, n));
            }
            for (int n : new int[] {15, 16, 256, 65536, Integer.MAX_VALUE - 1, Integer.MAX_VALUE}) {
                rich.refuses("sheet(0, " + bits + ", " + n + ")", Due.BEYOND, t -> t.sheet(0, bits, n));
            }
        }
    }

    private static void sheetFindingsInOrder() {
        Due.says("Promise 30: BEYOND: no such sheet, or bits. SIZE. BEYOND");
        Twin rich = new Twin(Rich::lay);
        rich.refuses("no sheet ahead of size", Due.BEYOND, t -> t.sheet(4, 8, -1));
        rich.refuses("no sheet ahead of size", Due.BEYOND, t -> t.sheet(-1, 8, -1));
        rich.refuses("no bits ahead of size", Due.BEYOND, t -> t.sheet(0, 7, -1));
        rich.refuses("size", Due.SIZE, t -> t.sheet(3, 8, -1));
    }

    private static void sheetMissing() {
        Due.says("Promise 30: bits 0: it is MISSING: n (0)");
        TownKnows town = new TownKnows();
        for (int n = 0; n <= 14; n += 7) {
            Rich.numbers(town, 0, 8, 1, 2, 3);
            Due.is("sheet(0, 0, " + n + ")", town.sheet(0, 0, n), 0);
            Due.is("it is missing", town.put(0, 0, 0), Due.MISSING);
            Due.is("it is missing", town.write(0, 0), Due.MISSING);
        }
        Due.is("missing again", town.sheet(0, 0, 0), 0);
        Due.is("none is not missing", town.sheet(0, 8, 0), 0);
        Due.is("none is not missing", town.write(0, 0), 0);
    }

    private static void sheetAllZero() {
        Due.says("Promise 30: a sheet has n numbers, all 0");
        TownKnows town = new TownKnows();
        for (int bits = 8; bits <= 32; bits *= 2) {
            Rich.numbers(town, 0, bits, 40, 40, 40, 40, 40, 40, 40, 40, 40, 40, 40, 40, 40, 40);
            Due.is("shorter", town.sheet(0, bits, 2), 2);
            reads(town, "all 0", 0, 0, 0);
            Due.is("longer", town.sheet(0, bits, 14), 14);
            reads(town, "all 0", 0, 0, 0, 0, 0, 0, 0, 0, 0, 0, 0, 0, 0, 0, 0);
            town.put(0, 13, 40);
            Due.is("missing", town.sheet(0, 0, 0), 0);
            Due.is("anew", town.sheet(0, bits, 14), 14);
            reads(town, "all 0", 0, 0, 0, 0, 0, 0, 0, 0, 0, 0, 0, 0, 0, 0, 0);
        }
    }

    private static void putFindingsInOrder() {
        Due.says("Promise 31: BEYOND: no such sheet. MISSING. BEYOND: no such number");
        Twin rich = new Twin(Rich::lay);
        rich.refuses("no sheet", Due.BEYOND, t -> t.put(4, 0, 1));
        rich.refuses("missing ahead of no number", Due.MISSING, t -> t.put(3, -1, 1));
        rich.refuses("missing ahead of no number", Due.MISSING, t -> t.put(3, 14, 1));
        rich.refuses("missing", Due.MISSING, t -> t.put(3, 0, 1));
    }

    private static void putPlaces() {
        Due.says("Promise 31: BEYOND: no such number");
        Twin rich = new Twin(Rich::lay);
        for (int i : Due.outside(0, 2)) {
            rich.refuses("put(0, " + i + ", 1)", Due.BEYOND, t -> t.put(0, i, 1));
        }
        for (int i : Due.outside(0, 1)) {
            rich.refuses("put(1, " + i + ", 1)", Due.BEYOND, t -> t.put(1, i, 1));
        }
        Twin none = new Twin(t -> {
            Rich.lay(t);
            t.sheet(3, 32, 0);
        });
        none.refuses("put(3, 0, 1) of none", Due.BEYOND, t -> t.put(3, 0, 1));
        none.refuses("put(3, -1, 1) of none", Due.BEYOND, t -> t.put(3, -1, 1));
        TownKnows town = new TownKnows();
        town.sheet(0, 16, 14);
        Due.is("the first", town.put(0, 0, 10), 0);
        Due.is("the last", town.put(0, 13, 11), 0);
        Due.is("no more", town.put(0, 14, 11), Due.BEYOND);
        reads(town, "the first and the last", 0, 10, 0, 0, 0, 0, 0, 0, 0, 0, 0, 0, 0, 0, 11);
    }

    private static void putLowestBits() {
        Due.says("Promise 31: number i of a sheet becomes v (its lowest bits): 0");
        for (int v : VALUES) {
            for (int bits = 8; bits <= 32; bits *= 2) {
                TownKnows town = new TownKnows();
                town.sheet(0, bits, 1);
                Due.is("put", town.put(0, 0, v), 0);
                long low = v & ((1L << bits) - 1);
                boolean sign = low <= 3 || (low >= 10 && low <= 14) || (low >= 20 && low <= 40);
                String what = v + " in " + bits + " bits";
                Due.is(what, town.write(0, 0), sign ? 1 : Due.BEYOND);
                Due.is(what, town.as(0, 0, 0), sign ? low : Due.BEYOND);
            }
        }
    }

    private static void putOneAlone() {
        Due.says("Promise 31: number i of a sheet becomes v");
        TownKnows town = new TownKnows();
        Rich.numbers(town, 0, 8, 0, 1, 2, 3);
        Rich.numbers(town, 1, 8, 0, 1, 2, 3);
        Due.is("put", town.put(0, 2, 40), 0);
        reads(town, "that one", 0, 0, 1, 40, 3);
        reads(town, "no other sheet", 1, 0, 1, 2, 3);
        Due.is("put again", town.put(0, 2, 20), 0);
        reads(town, "that one", 0, 0, 1, 20, 3);
    }

    private static void copyFindingsInOrder() {
        Due.says("Promise 32: BEYOND: no such sheet (either). MISSING: one is. KIND. BEYOND");
        Twin rich = new Twin(Rich::lay);
        rich.refuses("no sheet ahead of missing", Due.BEYOND, t -> t.copy(3, 0, 4, 0, 0));
        rich.refuses("no sheet ahead of missing", Due.BEYOND, t -> t.copy(-1, 0, 3, 0, 0));
        rich.refuses("missing ahead of kind and of beyond", Due.MISSING, t -> t.copy(0, -1, 3, 0, 99));
        rich.refuses("missing ahead of kind and of beyond", Due.MISSING, t -> t.copy(3, 0, 1, 99, -1));
        rich.refuses("kind ahead of beyond", Due.KIND, t -> t.copy(0, -1, 1, 0, 1));
        rich.refuses("kind ahead of beyond", Due.KIND, t -> t.copy(1, 0, 0, 0, 99));
        rich.refuses("kind ahead of beyond", Due.KIND, t -> t.copy(1, 0, 2, -1, -1));
    }

    private static void copyMissing() {
        Due.says("Promise 32: MISSING: one is");
        Twin rich = new Twin(Rich::lay);
        for (int s = 0; s < 4; s++) {
            int other = s;
            rich.refuses("copy from " + s + " to a missing one", Due.MISSING, t -> t.copy(other, 0, 3, 0, 0));
            rich.refuses("copy from a missing one to " + s, Due.MISSING, t -> t.copy(3, 0, other, 0, 0));
        }
    }

    private static void copyBits() {
        Due.says("Promise 32: KIND: they are not of as many bits");
        int[] bits = {8, 16, 32};
        for (int a : bits) {
            for (int b : bits) {
                TownKnows town = new TownKnows();
                Rich.numbers(town, 0, a, 40);
                Rich.numbers(town, 1, b, 20);
                Due.is("copy from " + a + " to " + b, town.copy(0, 0, 1, 0, 1), a == b ? 1 : Due.KIND);
                reads(town, "copied", 1, a == b ? 40 : 20);
                Due.is("none from " + a + " to " + b, town.copy(0, 0, 1, 0, 0), a == b ? 0 : Due.KIND);
            }
        }
    }

    private static void copyBeyondASheet() {
        Due.says("Promise 32: BEYOND: one has not so many, or from, to or n is below 0");
        Twin rich = new Twin(Rich::lay);
        int max = Integer.MAX_VALUE;
        int min = Integer.MIN_VALUE;
        // sheet 0 has three numbers, sheet 2 four
        int[][] parts = {{0, 0, 4}, {1, 0, 3}, {2, 0, 2}, {3, 0, 1}, {4, 0, 0}, {4, 0, 1}, {0, 2, 3}, {0, 3, 2}, {0, 4, 1},
            {0, 5, 0}, {-1, 0, 1}, {-1, 0, 0}, {0, -1, 1}, {0, -1, 0}, {0, 0, -1}, {3, 4, -1}, {1, 1, -1}, {max, 0, 1},
            {max, 0, 0}, {0, max, 1}, {0, max, 0}, {0, 0, max}, {1, 1, max}, {max, max, max}, {max, max, 2}, {min, 0, 1},
            {min, 0, 0}, {0, min, 1}, {0, 0, min}, {min, min, min}, {max, 0, min}, {0, max, min}, {min, 0, max},
            {1, 0, min}, {3, 0, min + 1}};
        for (int[] part : parts) {
            rich.refuses("copy(0, " + part[0] + ", 2, " + part[1] + ", " + part[2] + ")", Due.BEYOND,
                t -> t.copy(0, part[0], 2, part[1], part[2]));
            rich.refuses("copy(2, " + part[1] + ", 0, " + part[0] + ", " + part[2] + ")", Due.BEYOND,
                t -> t.copy(2, part[1], 0, part[0], part[2]));
        }
        rich.refuses("on itself", Due.BEYOND, t -> t.copy(0, 0, 0, 1, 3));
        rich.refuses("on itself", Due.BEYOND, t -> t.copy(0, 1, 0, 0, 3));
    }

    private static void copyJustAsMany() {
        Due.says("Promise 32: n numbers of a sheet from one on come to another one from one on: n");
        for (int from = 0; from <= 14; from++) {
            for (int to = 0; to <= 14; to++) {
                int n = 14 - Math.max(from, to);
                TownKnows town = new TownKnows();
                Rich.numbers(town, 0, 8, 20, 21, 22, 23, 24, 25, 26, 27, 28, 29, 30, 31, 32, 33);
                town.sheet(1, 8, 14);
                Due.is("one more than there are", town.copy(0, from, 1, to, n + 1), Due.BEYOND);
                Due.is("as many as there are", town.copy(0, from, 1, to, n), n);
                int[] due = new int[14];
                for (int i = 0; i < n; i++) {
                    due[to + i] = 20 + from + i;
                }
                reads(town, "copied", 1, due);
            }
        }
    }

    private static void copyNone() {
        Due.says("Promise 32: n");
        Twin rich = new Twin(Rich::lay);
        rich.tells("none", 0, t -> t.copy(0, 0, 2, 0, 0));
        rich.tells("none, from its end", 0, t -> t.copy(0, 3, 2, 0, 0));
        rich.tells("none, to its end", 0, t -> t.copy(0, 0, 2, 4, 0));
        rich.tells("none, on itself", 0, t -> t.copy(0, 3, 0, 3, 0));
        rich.tells("all, on itself", 3, t -> t.copy(0, 0, 0, 0, 3));
        Twin empty = new Twin(t -> {
            Rich.lay(t);
            t.sheet(3, 8, 0);
        });
        empty.tells("none of none", 0, t -> t.copy(3, 0, 3, 0, 0));
        empty.tells("none to none", 0, t -> t.copy(0, 1, 3, 0, 0));
        empty.refuses("one of none", Due.BEYOND, t -> t.copy(3, 0, 0, 0, 1));
        empty.refuses("one to none", Due.BEYOND, t -> t.copy(0, 0, 3, 0, 1));
    }

    private static void copyWithinOneSheet() {
        Due.says("Promise 32: a copy within one sheet");
        for (int from = 0; from < 6; from++) {
            for (int to = 0; to < 6; to++) {
                for (int n = 0; n <= 6 - Math.max(from, to); n++) {
                    TownKnows town = new TownKnows();
                    Rich.numbers(town, 2, 16, 20, 21, 22, 23, 24, 25);
                    Due.is("copy", town.copy(2, from, 2, to, n), n);
                    int[] due = {20, 21, 22, 23, 24, 25};
                    for (int i = 0; i < n; i++) {
                        due[to + i] = 20 + from + i;
                    }
                    reads(town, "from " + from + " to " + to + ", " + n, 2, due);
                }
            }
        }
    }

    private static void copyLeavesTheRest() {
        Due.says("Promise 32: n numbers of a sheet come to another one");
        TownKnows town = new TownKnows();
        Rich.numbers(town, 0, 32, 10, 11, 12);
        Rich.numbers(town, 1, 32, 0, 1, 2, 3);
        Due.is("copy", town.copy(0, 1, 1, 1, 2), 2);
        reads(town, "these two alone", 1, 0, 11, 12, 3);
        reads(town, "the one stays", 0, 10, 11, 12);
        town.put(0, 1, 40);
        reads(town, "a copy is a copy", 1, 0, 11, 12, 3);
        town.put(0, 1, 1 << 20);
        town.copy(0, 1, 1, 3, 1);
        Due.is("all 32 bits come", town.write(5, 1), Due.BEYOND);
    }
}
