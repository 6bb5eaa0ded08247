/** The boundaries of Terms 2 and of promises 4 to 9: groups, sentences, signs, what is RIGHT. */
final class EdgeSentenceTest {
    private static final int[] NO_SIGNS = {-1, 4, 9, 15, 19, 41, -20, 256, 266, 276, 65536, 65546, 1 << 30,
        Integer.MIN_VALUE, Integer.MIN_VALUE + 10, Integer.MAX_VALUE};

    public static void main(String[] args) {
        groupsOfGroup();
        setsOfGroup();
        sentencesThatAreThere();
        sentencesThatAreNotThere();
        whichNumbersAreSigns();
        fourteenSigns();
        fullEachSentence();
        blank();
        writeFindings();
        writeSizes();
        writeNoSign();
        writeKeepsNumbers();
        asPlaces();
        asKinds();
        wrongTakesTooMuch();
        wrongAtItsEnd();
        wrongOfWhoIsNotThere();
        wrongTheFirst();
        wrongOfFourteen();
        wrongIsNoFinding();
        Due.end("EdgeSentenceTest");
    }

    private static boolean isSign(int v) {
        return (v >= 0 && v <= 3) || (v >= 10 && v <= 14) || (v >= 20 && v <= 40);
    }

    private static void groupsOfGroup() {
        Due.says("Promise 4: group: BEYOND; GROUP 0 to 2");
        Twin rich = new Twin(Rich::lay);
        for (int g : Due.outside(0, 2)) {
            rich.refuses("group(" + g + ", 1)", Due.BEYOND, t -> t.group(g, 1));
        }
        TownKnows town = new TownKnows();
        for (int g = 0; g < 3; g++) {
            Due.is("group(" + g + ", " + (g + 1) + ")", town.group(g, g + 1), 0);
        }
        for (int g = 0; g < 3; g++) {
            Due.is("each has its own", town.group(g, 0), g + 1);
        }
    }

    private static void setsOfGroup() {
        Due.says("Promise 4: a set of PERSONS (0 to 15): what it was. BEYOND");
        Twin rich = new Twin(Rich::lay);
        for (int set : Due.outside(0, 15)) {
            rich.refuses("group(0, " + set + ")", Due.BEYOND, t -> t.group(0, set));
        }
        TownKnows town = new TownKnows();
        town.begin(1, 1, 0);
        int was = 0;
        for (int set = 15; set >= 0; set--) {
            Due.is("group(1, " + set + ") with one person", town.group(1, set), was);
            was = set;
        }
        Due.is("the same again", town.group(1, 0), 0);
    }

    private static void sentencesThatAreThere() {
        Due.says("Terms 2: SENTENCES 0 to 5, empty at first");
        TownKnows town = new TownKnows();
        for (int s = 0; s < 6; s++) {
            Due.is("wrong(" + s + ")", town.wrong(s), 0);
            Due.is("holds(" + s + ")", town.holds(s), Due.KIND);
            Due.is("as(" + s + ", 0, 0)", town.as(s, 0, 0), Due.BEYOND);
            Due.is("blank(" + s + ")", town.blank(s), 0);
            Due.is("sign(" + s + ", 0)", town.sign(s, 0), 1);
        }
        for (int s = 0; s < 6; s++) {
            Due.is("sign(" + s + ", 20)", town.sign(s, 20), 2);
            Due.is("each has its own signs", town.as(s, 1, 0), 20);
            Due.is("blank(" + s + ")", town.blank(s), 2);
        }
    }

    private static void sentencesThatAreNotThere() {
        Due.says("Terms 2: SENTENCES 0 to 5; no such SENTENCE: BEYOND");
        Twin rich = new Twin(Rich::lay);
        for (int s : Due.outside(0, 5)) {
            String of = ", sentence " + s;
            rich.refuses("sign" + of, Due.BEYOND, t -> t.sign(s, 0));
            rich.refuses("blank" + of, Due.BEYOND, t -> t.blank(s));
            rich.refuses("write" + of, Due.BEYOND, t -> t.write(s, 0));
            rich.refuses("as" + of, Due.BEYOND, t -> t.as(s, 0, 0));
            rich.refuses("wrong" + of, Due.BEYOND, t -> t.wrong(s));
            rich.refuses("tell" + of, Due.BEYOND, t -> t.tell(0, 1, s));
            rich.refuses("openly" + of, Due.BEYOND, t -> t.openly(0, 1, s));
            rich.refuses("cry" + of, Due.BEYOND, t -> t.cry(0, s));
            rich.refuses("lie" + of, Due.BEYOND, t -> t.lie(0, s));
            rich.refuses("pact" + of, Due.BEYOND, t -> t.pact(s, 0));
            rich.refuses("holds" + of, Due.BEYOND, t -> t.holds(s));
            rich.refuses("many" + of, Due.BEYOND, t -> t.many(s));
            rich.refuses("fails" + of, Due.BEYOND, t -> t.fails(s));
            rich.refuses("like" + of, Due.BEYOND, t -> t.like(s, 0));
            rich.refuses("like, the other" + of, Due.BEYOND, t -> t.like(0, s));
            rich.refuses("lessons" + of, Due.BEYOND, t -> t.lessons(s));
            rich.refuses("lesson" + of, Due.BEYOND, t -> t.lesson(s, 0));
            rich.refuses("then" + of, Due.BEYOND, t -> t.then(0, s));
            rich.refuses("since" + of, Due.BEYOND, t -> t.since(s));
        }
    }

    private static void whichNumbersAreSigns() {
        Due.says("Terms 2: 0 to 3; 10; 11 to 14; 20 to 31; 32 to 40. Promise 5: BEYOND: no such SIGN");
        for (int v = -300; v <= 400; v++) {
            TownKnows town = new TownKnows();
            Due.is("sign(0, " + v + ")", town.sign(0, v), isSign(v) ? 1 : Due.BEYOND);
            town.sheet(0, 32, 1);
            town.put(0, 0, v);
            Due.is("write of " + v, town.write(1, 0), isSign(v) ? 1 : Due.BEYOND);
        }
        Twin rich = new Twin(Rich::lay);
        for (int v : NO_SIGNS) {
            rich.refuses("sign(0, " + v + ")", Due.BEYOND, t -> t.sign(0, v));
        }
        TownKnows town = new TownKnows();
        town.begin(1, 1, 0);
        Due.is("a fact that is not there is a sign", town.sign(0, 3), 1);
        Due.is("a person that is not there, too", town.sign(0, 31), 2);
    }

    private static void fourteenSigns() {
        Due.says("Promise 5: FULL: it has 14");
        TownKnows town = new TownKnows();
        for (int i = 1; i <= 14; i++) {
            Due.is("sign " + i, town.sign(0, i == 1 ? 0 : 10), i);
        }
        Due.is("a fifteenth", town.sign(0, 10), Due.FULL);
        Due.is("it is right", town.wrong(0), -1);
        Due.is("undo the fourteenth", town.undo(), 11);
        Due.is("a fourteenth", town.sign(0, 20), 14);
        Due.is("the last one", town.as(0, 13, 0), 20);
        Due.is("begin", town.begin(3, 3, 3), 8);
        Due.is("full still", town.sign(0, 0), Due.FULL);
        Due.is("fourteen", town.blank(0), 14);
        Due.is("a first one", town.sign(0, 0), 1);
    }

    private static void fullEachSentence() {
        Due.says("Promise 5: BEYOND ahead of FULL; an act that answers a finding changes nothing");
        for (int sentence = 0; sentence < 6; sentence++) {
            int s = sentence;
            Twin full = new Twin(t -> {
                for (int i = 0; i < 14; i++) {
                    t.sign(s, i % 4);
                }
            });
            full.refuses("sign(" + s + ", 0)", Due.FULL, t -> t.sign(s, 0));
            full.refuses("sign(" + s + ", 40)", Due.FULL, t -> t.sign(s, 40));
            full.refuses("sign(" + s + ", 41)", Due.BEYOND, t -> t.sign(s, 41));
            full.refuses("sign(" + s + ", -1)", Due.BEYOND, t -> t.sign(s, -1));
            TownKnows town = new TownKnows();
            for (int i = 0; i < 14; i++) {
                town.sign(s, 0);
            }
            Due.is("another one is not full", town.sign((s + 1) % 6, 0), 1);
        }
    }

    private static void blank() {
        Due.says("Promise 6: a SENTENCE is empty: how many SIGNS it had");
        TownKnows town = new TownKnows();
        Due.is("of none", town.blank(0), 0);
        Due.is("that is an act, too", town.undo(), 0);
        for (int had = 1; had <= 14; had++) {
            for (int i = 0; i < had; i++) {
                town.sign(0, 1);
            }
            Due.is("blank of " + had, town.blank(0), had);
            Due.is("it is empty", town.wrong(0), 0);
            Due.is("it has no sign", town.as(0, 0, 0), Due.BEYOND);
        }
    }

    private static void writeFindings() {
        Due.says("Promise 7: BEYOND: no such SENTENCE, or sheet. MISSING. BEYOND: one is no SIGN");
        Twin rich = new Twin(Rich::lay);
        for (int sheet : Due.outside(0, 3)) {
            rich.refuses("write(0, " + sheet + ")", Due.BEYOND, t -> t.write(0, sheet));
        }
        rich.refuses("a missing sheet", Due.MISSING, t -> t.write(0, 3));
        rich.refuses("no such sentence, of a missing sheet", Due.BEYOND, t -> t.write(6, 3));
        rich.refuses("no such sentence, of a missing sheet", Due.BEYOND, t -> t.write(-1, 3));
        Twin gone = new Twin(t -> {
            Rich.lay(t);
            t.sheet(0, 0, 0);
        });
        gone.refuses("a sheet that is missing anew", Due.MISSING, t -> t.write(0, 0));
    }

    private static void writeSizes() {
        Due.says("Promise 7: a SENTENCE becomes the numbers of a sheet: how many");
        TownKnows town = new TownKnows();
        Rich.row(town, 0, 3, 3, 3);
        Rich.numbers(town, 0, 8);
        Due.is("of none", town.write(0, 0), 0);
        Due.is("it is empty", town.wrong(0), 0);
        Due.is("that is an act", town.undo(), 3);
        Due.is("it had three", town.blank(0), 3);
        for (int size = 1; size <= 14; size++) {
            town.sheet(1, 32, size);
            town.put(1, size - 1, 40);
            Due.is("write of " + size, town.write(0, 1), size);
            Due.is("its last", town.as(0, size - 1, 0), 40);
            Due.is("no more", town.as(0, size, 0), Due.BEYOND);
        }
        Due.is("it is full", town.sign(0, 0), Due.FULL);
        Rich.numbers(town, 2, 16, 10);
        Due.is("a shorter one", town.write(0, 2), 1);
        Due.is("the rest is gone", town.as(0, 1, 0), Due.BEYOND);
        Due.is("not right", town.wrong(0), 0);
    }

    private static void writeNoSign() {
        Due.says("Promise 7: BEYOND: one is no SIGN");
        for (int v : NO_SIGNS) {
            for (int at = 0; at < 14; at += 13) {
                int place = at;
                Twin twin = new Twin(t -> {
                    Rich.lay(t);
                    t.sheet(3, 32, 14);
                    t.put(3, place, v);
                });
                twin.refuses("write of " + v + " at " + place, Due.BEYOND, t -> t.write(0, 3));
            }
        }
    }

    private static void writeKeepsNumbers() {
        Due.says("Promise 7: a SENTENCE becomes the numbers of a sheet");
        TownKnows town = new TownKnows();
        Rich.numbers(town, 0, 8, 0, 20, 10);
        Due.is("write", town.write(2, 0), 3);
        town.put(0, 1, 3);
        Due.is("the sheet changes it not any more", town.as(2, 1, 0), 20);
        Due.is("one more sign", town.sign(2, 21), 4);
        Due.is("write again", town.write(3, 0), 3);
        Due.is("the sentence did not change the sheet", town.as(3, 1, 0), 3);
        Due.is("nor the other sentence", town.as(2, 3, 0), 21);
        Due.is("write on it", town.write(2, 0), 3);
        Due.is("the fourth is gone", town.as(2, 3, 0), Due.BEYOND);
    }

    private static void asPlaces() {
        Due.says("Promise 8: BEYOND: no such place");
        Twin rich = new Twin(Rich::lay);
        for (int i : Due.outside(0, 1)) {
            rich.refuses("as(2, " + i + ", 0)", Due.BEYOND, t -> t.as(2, i, 0));
            rich.refuses("as(2, " + i + ", 2)", Due.BEYOND, t -> t.as(2, i, 2));
        }
        rich.tells("as(2, 0, 0)", 0, t -> t.as(2, 0, 0));
        rich.tells("as(2, 1, 1)", 21, t -> t.as(2, 1, 1));
        rich.tells("of one that is not right", 1, t -> t.as(3, 1, 0));
        rich.refuses("of an empty one", Due.BEYOND, t -> t.as(5, 0, 0));
        TownKnows town = new TownKnows();
        for (int i = 0; i < 14; i++) {
            town.sign(0, 20 + i);
        }
        for (int i = 0; i < 14; i++) {
            Due.is("as(0, " + i + ", 0)", town.as(0, i, 0), 20 + i);
        }
        Due.is("as(0, 14, 0)", town.as(0, 14, 0), Due.BEYOND);
    }

    private static void asKinds() {
        Due.says("Promise 8: 0 any, 1 OF ONE (those OF A GROUP, too), 2 OF TWO, 3 OF A GROUP. BEYOND: no such kind. KIND");
        for (int v = 0; v <= 40; v++) {
            if (isSign(v)) {
                int sign = v;
                boolean[] due = {true, v == 10 || v >= 20, v >= 11 && v <= 14, v >= 32};
                TownKnows town = new TownKnows();
                town.sign(0, sign);
                for (int kind = 0; kind < 4; kind++) {
                    Due.is("sign " + v + " as " + kind, town.as(0, 0, kind), due[kind] ? v : Due.KIND);
                }
            }
        }
        Twin rich = new Twin(Rich::lay);
        for (int kind : Due.outside(0, 3)) {
            rich.refuses("as(0, 0, " + kind + ")", Due.BEYOND, t -> t.as(0, 0, kind));
        }
        rich.refuses("a fact is not of one", Due.KIND, t -> t.as(0, 0, 1));
        rich.refuses("nor of two", Due.KIND, t -> t.as(0, 0, 2));
        rich.refuses("nor of a group", Due.KIND, t -> t.as(0, 0, 3));
        rich.refuses("KNOWS is not of two", Due.KIND, t -> t.as(2, 1, 2));
        rich.refuses("nor of a group", Due.KIND, t -> t.as(2, 1, 3));
    }

    private static int wrong(int n, int m, int... signs) {
        TownKnows town = new TownKnows();
        town.begin(n, m, 0);
        Rich.row(town, 0, signs);
        int place = town.wrong(0);
        int findings = town.all(7);
        Due.is("it can be asked if it is right alone", town.holds(0) < -99999 ? 1 : 0, place == -1 ? 0 : 1);
        Due.is("and that is KIND", town.all(7) - findings, place == -1 ? 0 : 1);
        return place;
    }

    private static void wrongTakesTooMuch() {
        Due.says("Promise 9: takes too much");
        for (int v = 10; v <= 40; v++) {
            if (isSign(v)) {
                boolean two = v >= 11 && v <= 14;
                Due.is(v + " at first", wrong(4, 4, v), 0);
                Due.is(v + " behind one", wrong(4, 4, 0, v), two ? 1 : -1);
                Due.is(v + " behind two", wrong(4, 4, 0, 1, v), two ? -1 : 3);
                Due.is(v + " behind two of which one stands", wrong(4, 4, 0, 1, 11, v), two ? 3 : -1);
                Due.is(v + " behind three", wrong(4, 4, 0, 1, 2, v), 4);
            }
        }
    }

    private static void wrongAtItsEnd() {
        Due.says("Terms 2: just one stands at its end. Promise 9: or how many it has");
        Due.is("none", wrong(2, 2), 0);
        Due.is("one", wrong(2, 2, 0), -1);
        Due.is("two", wrong(2, 2, 0, 1), 2);
        Due.is("three", wrong(2, 2, 0, 1, 0), 3);
        Due.is("two, of which one has two", wrong(2, 2, 0, 1, 14, 1), 4);
        Due.is("two, the later one not", wrong(2, 2, 0, 1, 10), 3);
        Due.is("one", wrong(2, 2, 0, 1, 10, 11), -1);
    }

    private static void wrongOfWhoIsNotThere() {
        Due.says("Promise 9: tells of a PERSON or FACT that is not there");
        for (int n = 1; n <= 4; n++) {
            for (int m = 1; m <= 4; m++) {
                for (int f = 0; f < 4; f++) {
                    Due.is("fact " + f + " of " + m, wrong(n, m, f), f < m ? -1 : 0);
                    Due.is("fact " + f + " of " + m + ", second", wrong(n, m, 0, f, 11), f < m ? -1 : 1);
                }
                for (int v = 20; v <= 31; v++) {
                    Due.is("sign " + v + " of " + n, wrong(n, m, 0, v), v % 4 < n ? -1 : 1);
                }
                for (int v = 32; v <= 40; v++) {
                    Due.is("group sign " + v, wrong(n, m, 0, v), -1);
                }
            }
        }
        TownKnows town = new TownKnows();
        town.begin(1, 1, 0);
        town.group(0, 14);
        Rich.row(town, 0, 0, 32, 35, 38);
        Due.is("a group of such as are not there", town.wrong(0), -1);
    }

    private static void wrongTheFirst() {
        Due.says("Promise 9: the place of the first SIGN with which it goes wrong");
        Due.is("both take too much", wrong(2, 2, 10, 11), 0);
        Due.is("takes too much, then no fact 3", wrong(2, 2, 0, 11, 3), 1);
        Due.is("no fact 3, then takes too much", wrong(2, 2, 3, 11), 0);
        Due.is("no fact 2, then no person 3", wrong(2, 2, 0, 2, 23), 1);
        Due.is("no person 3, then no fact 2", wrong(2, 2, 0, 23, 2), 1);
        Due.is("no person 2, which takes too much, too", wrong(2, 2, 22), 0);
        Due.is("no fact 3, and two stand", wrong(2, 2, 0, 3), 1);
        Due.is("two stand, then no fact 3", wrong(2, 2, 0, 1, 3), 2);
        Due.is("what is taken away was wrong all the same", wrong(2, 2, 0, 0, 2, 11, 12), 2);
    }

    private static void wrongOfFourteen() {
        Due.says("Promise 9: or how many it has");
        int[] row = {0, 0, 0, 0, 0, 0, 0, 11, 12, 13, 14, 11, 12, 10};
        Due.is("right", wrong(1, 1, row), -1);
        row[13] = 11;
        Due.is("the last takes too much", wrong(1, 1, row), 13);
        row[13] = 21;
        Due.is("the last has no person", wrong(1, 1, row), 13);
        row[13] = 0;
        Due.is("two stand", wrong(1, 1, row), 14);
        Due.is("fourteen stand", wrong(1, 1, 0, 0, 0, 0, 0, 0, 0, 0, 0, 0, 0, 0, 0, 0), 14);
        Due.is("the first is wrong", wrong(1, 1, 1, 0, 0, 0, 0, 0, 0, 0, 0, 0, 0, 0, 0, 0), 0);
    }

    private static void wrongIsNoFinding() {
        Due.says("Promise 9: -1 (no finding)");
        Twin rich = new Twin(Rich::lay);
        rich.tells("wrong of a right one", -1, t -> t.wrong(0));
        rich.tells("wrong of one that is not", 2, t -> t.wrong(3));
        rich.tells("wrong of an empty one", 0, t -> t.wrong(5));
    }
}
