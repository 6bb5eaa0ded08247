/** The boundaries of Terms 1 and of promises 1 and 2: persons, facts, worlds, CUT; a new object, begin. */
final class EdgeTownTest {
    public static void main(String[] args) {
        personsAndFactsOfBegin();
        realOfBegin();
        personsThatAreThere();
        personsThatAreNotThere();
        factsThatAreThere();
        factsThatAreNotThere();
        worldsAtFirst();
        cutDropsWhatCannotBeComeTo();
        cutComesAgainAndAgain();
        cutJoinsWhatIsAlike();
        cutKeepsTheLeast();
        cutJoinsCells();
        cutJoinsCellsOfThree();
        cutLooksAgainAndAgain();
        cutDropsFirst();
        cutBehindEachAct();
        newObject();
        newObjectsShareNothing();
        beginTakesAway();
        beginLeaves();
        beginRefusedTakesNothingAway();
        beginAnewTheSame();
        Due.end("EdgeTownTest");
    }

    private static void personsAndFactsOfBegin() {
        Due.says("Promise 2: n PERSONS (1 to 4), m FACTS (1 to 4). BEYOND");
        for (int n = 1; n <= 4; n++) {
            for (int m = 1; m <= 4; m++) {
                TownKnows town = new TownKnows();
                Due.is("begin(" + n + ", " + m + ", 0)", town.begin(n, m, 0), 1 << m);
                Due.is("persons", town.all(0), n);
                Due.is("facts", town.all(1), m);
            }
        }
        Twin rich = new Twin(Rich::lay);
        for (int out : Due.outside(1, 4)) {
            rich.refuses("begin(" + out + ", 1, 0)", Due.BEYOND, t -> t.begin(out, 1, 0));
            rich.refuses("begin(1, " + out + ", 0)", Due.BEYOND, t -> t.begin(1, out, 0));
            rich.refuses("begin(" + out + ", " + out + ", 0)", Due.BEYOND, t -> t.begin(out, out, 0));
        }
    }

    private static void realOfBegin() {
        Due.says("Promise 2: the set of FACTS that are so in THE REAL WORLD. BEYOND");
        Twin rich = new Twin(Rich::lay);
        for (int facts = 1; facts <= 4; facts++) {
            int m = facts;
            int most = (1 << m) - 1;
            for (int real = 0; real <= most; real++) {
                TownKnows town = new TownKnows();
                Due.is("begin(1, " + m + ", " + real + ")", town.begin(1, m, real), most + 1);
                Due.is("the real one", town.all(3), real);
                Due.is("its facts", town.world(real, -1), real);
            }
            for (int out : Due.outside(0, most)) {
                rich.refuses("begin(1, " + m + ", " + out + ")", Due.BEYOND, t -> t.begin(1, m, out));
            }
        }
    }

    private static void personsThatAreThere() {
        Due.says("Terms 1: PERSONS are 0 to n - 1");
        for (int n = 1; n <= 4; n++) {
            int last = n - 1;
            TownKnows town = new TownKnows();
            town.begin(n, 1, 1);
            Due.write(town, 0, 0);
            Due.is("go", town.go(last, 3), 0);
            Due.is("known", town.known(last, true), 0);
            Due.is("world", town.world(1, last), 0);
            Due.is("lie", town.lie(last, 0), 0);
            Due.is("clashed", town.clashed(0, last), 0);
            Due.is("see", town.see(last, 0), n == 1 ? 1 : 2);
            Due.is("cry", town.cry(last, 0), 1);
            Due.is("swear", town.swear(last, 0), 1);
            if (n > 1) {
                town.go(last, 0);
                Due.is("tell", town.tell(0, last, 0), 1);
                Due.is("openly", town.openly(0, last, 0), 1);
                Due.is("last tells", town.tell(last, 0, 0), Due.SWORN);
                Due.is("last tells openly", town.openly(last, 0, 0), Due.SWORN);
            }
        }
    }

    private static void personsThatAreNotThere() {
        Due.says("Terms 1: PERSONS are 0 to n - 1; no such PERSON: BEYOND");
        for (int persons = 1; persons <= 4; persons++) {
            int n = persons;
            Twin twin = new Twin(t -> {
                t.begin(n, 2, 1);
                t.sign(0, 0);
                t.lie(0, 0);
                t.swear(0, 1);
            });
            for (int p : Due.outside(0, n - 1)) {
                String of = " with " + n + ": person " + p;
                twin.refuses("go" + of, Due.BEYOND, t -> t.go(p, 1));
                twin.refuses("see" + of, Due.BEYOND, t -> t.see(p, 0));
                twin.refuses("tell" + of, Due.BEYOND, t -> t.tell(p, 0, 0));
                twin.refuses("told" + of, Due.BEYOND, t -> t.tell(0, p, 0));
                twin.refuses("openly" + of, Due.BEYOND, t -> t.openly(p, 0, 0));
                twin.refuses("told openly" + of, Due.BEYOND, t -> t.openly(0, p, 0));
                twin.refuses("cry" + of, Due.BEYOND, t -> t.cry(p, 0));
                twin.refuses("lie" + of, Due.BEYOND, t -> t.lie(p, 0));
                twin.refuses("clashed" + of, Due.BEYOND, t -> t.clashed(0, p));
                twin.refuses("swear" + of, Due.BEYOND, t -> t.swear(p, 0));
                twin.refuses("known" + of, Due.BEYOND, t -> t.known(p, true));
                twin.refuses("known to be so" + of, Due.BEYOND, t -> t.known(p, false));
                if (p != -1) {
                    twin.refuses("world" + of, Due.BEYOND, t -> t.world(0, p));
                }
            }
        }
    }

    private static void factsThatAreThere() {
        Due.says("Terms 1: FACTS are 0 to m - 1");
        for (int m = 1; m <= 4; m++) {
            TownKnows town = new TownKnows();
            town.begin(2, m, 0);
            Due.write(town, 0, m - 1);
            Due.is("its sign is right", town.wrong(0), -1);
            Due.is("so at half of the worlds", town.many(0), 1 << (m - 1));
            Due.is("see", town.see(0, m - 1), 1 << m);
            Due.is("it knows whether", town.known(0, true), 1 << (m - 1));
            Due.is("swear", town.swear(0, m - 1), 1);
        }
    }

    private static void factsThatAreNotThere() {
        Due.says("Terms 1: FACTS are 0 to m - 1; no such FACT: BEYOND");
        for (int facts = 1; facts <= 4; facts++) {
            int m = facts;
            Twin twin = new Twin(t -> {
                t.begin(2, m, 1);
                t.swear(1, 0);
            });
            for (int f : Due.outside(0, m - 1)) {
                twin.refuses("see(0, " + f + ") of " + m, Due.BEYOND, t -> t.see(0, f));
                twin.refuses("swear(0, " + f + ") of " + m, Due.BEYOND, t -> t.swear(0, f));
            }
        }
    }

    private static void worldsAtFirst() {
        Due.says("Terms 1: a WORLD for each set of FACTS (its number is the set), all are one CELL of each PERSON");
        for (int n = 1; n <= 4; n++) {
            for (int m = 1; m <= 4; m++) {
                TownKnows town = new TownKnows();
                town.begin(n, m, 1);
                for (int w = 0; w < 1 << m; w++) {
                    Due.is("facts of " + w, town.world(w, -1), w);
                    for (int p = 0; p < n; p++) {
                        Due.is("cell of " + w, town.world(w, p), 0);
                    }
                }
                Due.is("no more worlds", town.world(1 << m, -1), Due.BEYOND);
            }
        }
    }

    private static void look(TownKnows town, String what, int real, int... facts) {
        Due.is(what + ": worlds", town.all(2), facts.length);
        Due.is(what + ": the real one", town.all(3), real);
        for (int w = 0; w < facts.length; w++) {
            Due.is(what + ": facts of " + w, town.world(w, -1), facts[w]);
        }
    }

    private static void cells(TownKnows town, String what, int person, int... least) {
        for (int w = 0; w < least.length; w++) {
            Due.is(what + ": cell of " + w + " of person " + person, town.world(w, person), least[w]);
        }
    }

    private static void cutDropsWhatCannotBeComeTo() {
        Due.says("CUT: WORLDS that can't be come to from THE REAL one go; numbered anew as they stood");
        TownKnows town = new TownKnows();
        town.begin(1, 3, 6);
        Due.is("see fact 1", town.see(0, 1), 4);
        look(town, "fact 1 is so", 2, 2, 3, 6, 7);
        Due.is("see fact 0", town.see(0, 0), 2);
        look(town, "fact 0 is not", 1, 2, 6);
        Due.is("see fact 2", town.see(0, 2), 1);
        look(town, "just the real one stays", 0, 6);
        Due.is("see once more", town.see(0, 2), 1);
        look(town, "it stays", 0, 6);
    }

    private static void cutComesAgainAndAgain() {
        Due.says("CUT: by CELLS of any PERSON, again and again");
        TownKnows town = new TownKnows();
        town.begin(2, 2, 3);
        Due.is("0 sees fact 0", town.see(0, 0), 4);
        Due.is("1 sees fact 1", town.see(1, 1), 4);
        look(town, "world 0 is come to by 1 or 2", 3, 0, 1, 2, 3);
        Due.is("1 sees fact 0, too", town.see(1, 0), 2);
        look(town, "where fact 0 is not so can't be come to", 1, 1, 3);
        town.begin(4, 4, 0);
        for (int p = 0; p < 4; p++) {
            Due.is("see", town.see(p, p), 16);
        }
        for (int p = 0; p < 4; p++) {
            Due.is("see the next", town.see(p, (p + 1) % 4), 16);
        }
        for (int p = 0; p < 3; p++) {
            Due.is("see the one behind", town.see(p, (p + 2) % 4), 16);
        }
        Due.is("now only 0 does not see fact 3", town.see(3, 2), 8);
    }

    /** 0 knows and tells 1, 2 is elsewhere: not so, told that not, so, told that so. */
    private static TownKnows whispered() {
        TownKnows town = new TownKnows();
        town.begin(3, 1, 1);
        town.see(0, 0);
        town.go(2, 1);
        Due.write(town, 0, 0);
        Due.is("tell", town.tell(0, 1, 0), 4);
        return town;
    }

    private static void cutJoinsWhatIsAlike() {
        Due.says("CUT: ALIKE if they have the same FACTS, and, for each PERSON, each WORLD in the CELL of the one is"
            + " ALIKE to some in the CELL of the other");
        TownKnows town = whispered();
        look(town, "same facts, but 1 knows in one alone", 3, 0, 0, 1, 1);
        cells(town, "0 can tell all apart", 0, 0, 1, 2, 3);
        cells(town, "1 was told or not", 1, 0, 1, 0, 3);
        cells(town, "2 heard nothing", 2, 0, 0, 0, 0);
        Due.is("when 1 sees it, whether it was told makes no odds", town.see(1, 0), 2);
        look(town, "joined", 1, 0, 1);
        cells(town, "1 knows", 1, 0, 1);
        cells(town, "2 does not", 2, 0, 0);
    }

    private static void cutKeepsTheLeast() {
        Due.says("CUT: of those that are ALIKE the least stays, for the others; what was in one CELL with one of them"
            + " is in one with it");
        TownKnows town = whispered();
        Due.is("told again", town.tell(0, 1, 0), 4);
        look(town, "the real one is the last, told for the first time", 3, 0, 0, 1, 1);
        cells(town, "0", 0, 0, 1, 2, 3);
        cells(town, "1", 1, 0, 1, 0, 3);
        cells(town, "2", 2, 0, 0, 0, 0);
        Due.is("told back", town.tell(1, 0, 0), 4);
        look(town, "the same", 3, 0, 0, 1, 1);
        cells(town, "1", 1, 0, 1, 0, 3);
    }

    /**
     * 1 told 0 without 2 and 3, and 0 told 2 of it. Then 1 tells 0 in the hearing of 3, and 0 tells it back: that
     * changes nothing, but of what 3 could not tell apart some worlds stay where it was told back, others where it
     * was not. So the least world's own cell does not have them all.
     */
    private static void cutJoinsCells() {
        Due.says("CUT: what was in one CELL with one of them is in one with it");
        TownKnows town = new TownKnows();
        town.begin(4, 1, 0);
        town.see(1, 0);
        town.go(2, 1);
        town.go(3, 1);
        Due.write(town, 0, 0);
        Due.is("1 tells 0", town.tell(1, 0, 0), 4);
        town.go(2, 0);
        Due.is("0 tells 2", town.tell(0, 2, 0), 6);
        town.go(2, 1);
        town.go(3, 0);
        Due.is("1 tells 0 in the hearing of 3", town.tell(1, 0, 0), 10);
        Due.is("0 tells it back", town.tell(0, 1, 0), 10);
        look(town, "as it was", 4, 0, 0, 0, 0, 0, 1, 1, 1, 1, 1);
        cells(town, "0", 0, 0, 1, 2, 3, 4, 0, 6, 7, 8, 9);
        cells(town, "1", 1, 0, 1, 2, 3, 4, 5, 6, 7, 8, 9);
        cells(town, "2", 2, 0, 0, 0, 3, 3, 0, 0, 0, 8, 8);
        cells(town, "3", 3, 0, 1, 0, 0, 1, 0, 1, 0, 0, 1);
    }

    /** All hear the last telling: three worlds where it was told stay, two of them in one cell of 2 by others alone. */
    private static void cutJoinsCellsOfThree() {
        Due.says("CUT: what was in one CELL with one of them is in one with it");
        TownKnows town = new TownKnows();
        town.begin(3, 1, 0);
        town.see(0, 0);
        town.see(1, 0);
        town.go(0, 2);
        Due.write(town, 0, 0);
        Due.is("1 tells 2 whether it is so", town.tell(1, 2, 0), 4);
        town.go(0, 0);
        town.go(2, 1);
        Due.write(town, 0, 0, 22);
        Due.is("1 tells 0 whether 2 knows that it is so", town.tell(1, 0, 0), 6);
        town.go(1, 1);
        town.go(2, 0);
        Due.write(town, 0, 0, 20, 22);
        Due.is("2 tells 0 whether 2 knows that 0 knows", town.tell(2, 0, 0), 12);
        town.go(1, 0);
        Due.write(town, 0, 0, 22);
        Due.is("0 tells 1 whether 2 knows that it is so", town.tell(0, 1, 0), 3);
        look(town, "of those not so two stay", 1, 0, 0, 1);
        cells(town, "0", 0, 0, 0, 2);
        cells(town, "1", 1, 0, 1, 2);
        cells(town, "2", 2, 0, 1, 0);
    }

    /** What parts two worlds may be what one knows that another one knows, and so on. */
    private static void cutLooksAgainAndAgain() {
        Due.says("CUT: each WORLD in the CELL of the one is ALIKE to some in the CELL of the other (the most that can be"
            + " ALIKE so)");
        TownKnows town = new TownKnows();
        town.begin(4, 1, 1);
        town.see(0, 0);
        town.go(2, 1);
        Due.write(town, 0, 0);
        Due.is("0 tells 3 in the hearing of 1", town.tell(0, 3, 0), 4);
        town.go(1, 1);
        Due.is("and again without", town.tell(0, 3, 0), 6);
        look(town, "told never, told unheard, told in the hearing of 1", 5, 0, 0, 0, 1, 1, 1);
        cells(town, "1 knows whether it was told in its hearing", 1, 0, 0, 2, 0, 0, 2);
        cells(town, "2 knows nothing", 2, 0, 0, 0, 0, 0, 0);
        cells(town, "3 knows what it was told", 3, 0, 1, 2, 0, 4, 5);
        town.begin(3, 1, 0);
        town.see(0, 0);
        town.see(2, 0);
        town.go(0, 1);
        Due.is("2 tells 1 without 0", town.tell(2, 1, 0), 4);
        town.go(1, 1);
        Due.write(town, 1, 0, 21);
        Due.is("1 tells 0 whether it knows that it is so", town.tell(1, 0, 1), 8);
        look(town, "no two are alike", 3, 0, 0, 0, 0, 1, 1, 1, 1);
        cells(town, "0", 0, 0, 1, 0, 1, 4, 5, 4, 7);
        cells(town, "1", 1, 0, 1, 2, 3, 0, 1, 6, 7);
        cells(town, "2", 2, 0, 0, 2, 2, 4, 4, 6, 6);
    }

    /** Where it was told can't be told from where it was not, but for that all saw it: just the one half stays. */
    private static void cutDropsFirst() {
        Due.says("CUT: WORLDS that can't be come to go. Then two are ALIKE");
        for (int n = 2; n <= 4; n++) {
            TownKnows all = new TownKnows();
            all.begin(n, 2, 2);
            Due.write(all, 0, 0, 0, 10, 12);
            Due.is("what is always so is told before all", all.tell(0, 1, 0), 4);
            look(all, "as it was", 2, 0, 1, 2, 3);
            cells(all, "one cell", n - 1, 0, 0, 0, 0);
        }
        TownKnows town = whispered();
        town.go(2, 0);
        Due.is("told in the hearing of 2", town.tell(0, 1, 0), 2);
        look(town, "only where it was told", 1, 0, 1);
        cells(town, "2 heard that, not what", 2, 0, 0);
        cells(town, "1 knows", 1, 0, 1);
    }

    private static void cutBehindEachAct() {
        Due.says("CUT is done behind each act that changes WORLDS or CELLS");
        TownKnows town = whispered();
        Due.is("see", town.see(2, 0), 4);
        look(town, "2 sees it, but not whether 1 was told, and then 1 holds all possible", 3, 0, 0, 1, 1);
        cells(town, "2", 2, 0, 0, 2, 2);
        Due.is("see", town.see(1, 0), 1);
        look(town, "now all see it", 0, 1);
        town = whispered();
        Due.is("openly to 2", town.openly(0, 2, 0), 4);
        cells(town, "2 is told", 2, 0, 0, 2, 2);
        town = whispered();
        Due.is("openly to 1", town.openly(0, 1, 0), 2);
        look(town, "1 knows, told or not", 1, 0, 1);
        Due.is("openly to 2, too", town.openly(1, 2, 0), 1);
        look(town, "all know", 0, 1);
        town = whispered();
        Due.is("cry", town.cry(0, 0), 1);
        look(town, "all know", 0, 1);
        town = whispered();
        Due.is("lie", town.lie(2, 0), 0);
        look(town, "no world goes by a lie", 3, 0, 0, 1, 1);
    }

    private static void newObject() {
        Due.says("Promise 1: two PERSONS, two FACTS, THE REAL WORLD 0; none of the rest; sheets MISSING");
        TownKnows town = new TownKnows();
        int[] all = {2, 2, 4, 0, 0, 0, 0, 0};
        for (int what = 0; what < all.length; what++) {
            Due.is("all(" + what + ")", town.all(what), all[what]);
        }
        look(town, "a world for each set", 0, 0, 1, 2, 3);
        cells(town, "one cell", 0, 0, 0, 0, 0);
        cells(town, "one cell", 1, 0, 0, 0, 0);
        Due.is("no third person", town.known(2, true), Due.BEYOND);
        Due.is("no third fact", town.see(0, 2), Due.BEYOND);
        Due.is("binding", town.binding(), 0);
        Due.is("no claim", town.clashed(0, 0), Due.BEYOND);
        Due.is("nothing to undo", town.undo(), Due.NONE);
        for (int s = 0; s < 6; s++) {
            Due.is("an empty sentence", town.wrong(s), 0);
            Due.is("of no signs", town.blank(s), 0);
        }
        for (int s = 0; s < 4; s++) {
            Due.is("a sheet is missing", town.write(0, s), Due.MISSING);
        }
        for (int g = 0; g < 3; g++) {
            Due.is("a group of none", town.group(g, 15), 0);
        }
        for (int p = 0; p < 2; p++) {
            Due.is("street 0", town.go(p, 3), 0);
            Due.is("no oath", town.swear(p, 0), 1);
        }
        Due.write(town, 0, 1);
        Due.is("no mark", town.then(0, 0), Due.BEYOND);
        Due.is("the first claim", town.lie(0, 0), 0);
        Due.is("the first pact", town.pact(0, 0), 0);
        Due.is("the first mark", town.mark(), 0);
    }

    private static void newObjectsShareNothing() {
        Due.says("Promise 1: a new object");
        TownKnows first = new TownKnows();
        Rich.lay(first);
        first.all(99);
        TownKnows second = new TownKnows();
        Due.is("findings of the second", second.all(7), 0);
        Due.is("worlds of the second", second.all(2), 4);
        second.sheet(0, 8, 1);
        second.begin(1, 1, 0);
        second.sign(0, 3);
        second.group(0, 1);
        Due.is("persons of the first", first.all(0), 3);
        Due.is("its sentence", first.as(0, 0, 0), 0);
        Due.is("its group", first.group(0, 0), 3);
        Due.is("its sheet", first.write(5, 0), 3);
    }

    private static void beginTakesAway() {
        Due.says("Promise 2: no CLAIMS, OATHS, PACTS, MARKS; all in STREET 0");
        TownKnows town = new TownKnows();
        Rich.lay(town);
        Due.is("claims", town.all(4), 2);
        Due.is("pacts", town.all(5), 2);
        Due.is("marks", town.all(6), 2);
        Due.is("begin", town.begin(4, 2, 2), 4);
        Due.is("claims", town.all(4), 0);
        Due.is("pacts", town.all(5), 0);
        Due.is("marks", town.all(6), 0);
        look(town, "all worlds anew", 2, 0, 1, 2, 3);
        for (int p = 0; p < 4; p++) {
            cells(town, "one cell", p, 0, 0, 0, 0);
            Due.is("street 0", town.go(p, 0), 0);
            Due.is("no oath on 0", town.swear(p, 0), 1);
            Due.is("no oath on 1", town.swear(p, 1), 2);
        }
        Due.is("no claim", town.clashed(0, 0), Due.BEYOND);
        Due.is("no pact binds", town.binding(), 0);
        Due.is("no mark", town.then(0, 0), Due.BEYOND);
        town.begin(4, 2, 2);
        Due.is("the first claim anew", town.lie(0, 0), 0);
        Due.is("the first pact anew", town.pact(0, 0), 0);
        Due.is("the first mark anew", town.mark(), 0);
    }

    private static void beginLeaves() {
        Due.says("Promise 2: SENTENCES and GROUPS stay");
        TownKnows town = new TownKnows();
        Rich.lay(town);
        int findings = town.all(7);
        Due.is("begin with fewer", town.begin(1, 1, 0), 2);
        int[][] rows = {{0}, {1}, {0, 21}, {0, 1}, {1, 29}, {}};
        for (int s = 0; s < 6; s++) {
            for (int i = 0; i < rows[s].length; i++) {
                Due.is("sign " + i + " of " + s, town.as(s, i, 0), rows[s][i]);
            }
        }
        int[] wrong = {-1, 0, 1, 1, 0, 0};
        for (int s = 0; s < 6; s++) {
            Due.is("wrong(" + s + ") with one person and one fact", town.wrong(s), wrong[s]);
        }
        Due.is("group 0", town.group(0, 15), 3);
        Due.is("group 1", town.group(1, 0), 5);
        Due.is("group 2", town.group(2, 0), 8);
        Due.is("begin", town.begin(2, 1, 0), 2);
        Due.is("group 0, of such as are not there, too", town.group(0, 0), 15);
        Due.is("a sheet", town.write(0, 2), 4);
        Due.is("findings", town.all(7), findings);
    }

    private static void beginRefusedTakesNothingAway() {
        Due.says("Promise 2: BEYOND; an act that answers a finding changes nothing");
        TownKnows town = new TownKnows();
        Rich.lay(town);
        Due.is("begin", town.begin(4, 2, 4), Due.BEYOND);
        int[] all = {3, 2, 8, 7, 2, 2, 2};
        for (int what = 0; what < all.length; what++) {
            Due.is("all(" + what + ")", town.all(what), all[what]);
        }
        Due.is("street of 2", town.go(2, 1), 1);
        Due.is("oath of 1", town.swear(1, 0), Due.KIND);
    }

    private static void beginAnewTheSame() {
        Due.says("Promise 2: the town begins anew; Promise 33: begin is undone");
        TownKnows town = new TownKnows();
        Due.is("begin as it is", town.begin(2, 2, 0), 4);
        Due.is("that can be undone, too", town.undo(), 0);
        Rich.lay(town);
        Due.is("begin as it was", town.begin(3, 2, 3), 4);
        Due.is("undo", town.undo(), 11);
        Due.is("worlds", town.all(2), 8);
        Due.is("claims", town.all(4), 2);
        Due.is("pacts", town.all(5), 2);
        Due.is("marks", town.all(6), 2);
        Due.is("then", town.then(1, 2), 1);
        Due.is("oath of 1", town.swear(1, 0), Due.KIND);
        Due.is("street of 2", town.go(2, 1), 1);
    }
}
