/** The boundaries of Terms 4 and of promises 14 to 18: claims, clashes, oaths, pacts. */
final class EdgeClaimTest {
    public static void main(String[] args) {
        lieFindingsInOrder();
        lieFullInOrder();
        fiveClaims();
        lieHasNoBelieves();
        lieJustUntrue();
        lieChangesNoWorld();
        claimKeepsItsSigns();
        clashedFindings();
        clashedAlone();
        clashedOfLaterOnes();
        clashedOfTheRealCell();
        clashedBehindAnAct();
        clashedInOneWorld();
        clashedAsWorldsAreNow();
        swearFindings();
        swearEachOnce();
        swearAgain();
        pactFindingsInOrder();
        fourPacts();
        pactKeepsItsSigns();
        pactOfAGroupOfNone();
        pactOfSuchAsAreNotThere();
        bindingAsBits();
        bindingOfTheGroupAsItIs();
        Due.end("EdgeClaimTest");
    }

    /** As in EdgeActTest: 0 knows fact 0 and swore on 1; 3 and 4 are not RIGHT; 5 has BELIEVES and fact 1. */
    private static void lay(TownKnows town) {
        town.begin(3, 3, 7);
        Rich.row(town, 0, 0);
        Rich.row(town, 1, 1);
        Rich.row(town, 2, 2);
        Rich.row(town, 3, 0, 2);
        Rich.row(town, 4, 1, 1);
        Rich.row(town, 5, 1, 28);
        town.see(0, 0);
        town.see(0, 1);
        town.swear(0, 1);
    }

    private static void lies(TownKnows town, int count) {
        for (int claim = 0; claim < count; claim++) {
            Due.is("lie", town.lie(1, 2), claim);
        }
    }

    private static void lieFindingsInOrder() {
        Due.says("Promise 14: BEYOND, KIND, SWORN, UNTRUE, FULL, in this order");
        Twin town = new Twin(EdgeClaimTest::lay);
        town.refuses("beyond ahead of kind", Due.BEYOND, t -> t.lie(3, 3));
        town.refuses("beyond ahead of kind: BELIEVES", Due.BEYOND, t -> t.lie(3, 5));
        town.refuses("no sentence", Due.BEYOND, t -> t.lie(0, 6));
        town.refuses("kind ahead of sworn", Due.KIND, t -> t.lie(0, 4));
        town.refuses("kind: BELIEVES ahead of sworn", Due.KIND, t -> t.lie(0, 5));
        town.refuses("kind alone", Due.KIND, t -> t.lie(1, 3));
        town.refuses("sworn ahead of untrue", Due.SWORN, t -> t.lie(0, 1));
        town.refuses("untrue alone", Due.UNTRUE, t -> t.lie(0, 0));
    }

    private static void lieFullInOrder() {
        Due.says("Promise 14: FULL: there are 5 CLAIMS; it is asked last");
        Twin full = new Twin(t -> {
            lay(t);
            lies(t, 5);
        });
        full.refuses("beyond ahead of full", Due.BEYOND, t -> t.lie(-1, 2));
        full.refuses("beyond ahead of full", Due.BEYOND, t -> t.lie(1, -1));
        full.refuses("kind ahead of full", Due.KIND, t -> t.lie(1, 3));
        full.refuses("kind ahead of full", Due.KIND, t -> t.lie(1, 5));
        full.refuses("sworn ahead of full", Due.SWORN, t -> t.lie(0, 1));
        full.refuses("untrue ahead of full", Due.UNTRUE, t -> t.lie(0, 0));
        full.refuses("full", Due.FULL, t -> t.lie(1, 2));
        full.refuses("full for another, too", Due.FULL, t -> t.lie(2, 0));
    }

    private static void fiveClaims() {
        Due.says("Terms 4: a CLAIM (at most 5). Promise 14: the number of the CLAIM");
        TownKnows town = new TownKnows();
        Due.write(town, 0, 0);
        for (int claim = 0; claim < 5; claim++) {
            Due.is("claims ahead", town.all(4), claim);
            Due.is("no such claim yet", town.clashed(claim, 0), Due.BEYOND);
            Due.is("lie", town.lie(claim % 2, 0), claim);
            Due.is("it is there", town.clashed(claim, 0), 0);
        }
        Due.is("a sixth", town.lie(0, 0), Due.FULL);
        Due.is("five", town.all(4), 5);
        Due.is("undo one", town.undo(), 6);
        Due.is("four", town.all(4), 4);
        Due.is("a fifth anew", town.lie(1, 0), 4);
        Due.is("a sixth", town.lie(1, 0), Due.FULL);
        town.begin(2, 2, 0);
        Due.is("a first anew", town.lie(1, 0), 0);
    }

    private static void lieHasNoBelieves() {
        Due.says("Promise 14: KIND: it is not RIGHT, or has BELIEVES in it (28 to 31)");
        for (int v = 20; v <= 40; v++) {
            TownKnows town = new TownKnows();
            town.begin(4, 1, 0);
            Due.write(town, 0, 0, v);
            boolean believes = v >= 28 && v <= 31;
            // that anyone thinks it possible is so at all worlds, and so is that each of none knows it
            boolean known = (v >= 24 && v <= 27) || (v >= 32 && v <= 34);
            Due.is("sign " + v, town.lie(0, 0), believes ? Due.KIND : known ? Due.UNTRUE : 0);
            Due.write(town, 1, 0, v, 10, 0, 0, 10, 11, 11);
            Due.is("sign " + v + " in the midst", town.lie(1, 1) == Due.KIND ? 1 : 0, believes ? 1 : 0);
        }
    }

    private static void lieJustUntrue() {
        Due.says("Promise 14: UNTRUE: it KNOWS it (that is no LIE)");
        TownKnows town = new TownKnows();
        town.begin(2, 2, 1);
        town.see(0, 0);
        Due.write(town, 0, 0);
        Due.write(town, 1, 0, 10);
        Due.write(town, 2, 0, 1, 11);
        Due.write(town, 3, 0, 1, 12);
        Due.is("it knows it", town.lie(0, 0), Due.UNTRUE);
        Due.is("it knows that one of them is", town.lie(0, 3), Due.UNTRUE);
        Due.is("it knows that it is not so", town.lie(0, 1), 0);
        Due.is("it does not know the other", town.lie(0, 2), 1);
        Due.is("it is so, but 1 does not know that", town.lie(1, 0), 2);
    }

    private static void lieChangesNoWorld() {
        Due.says("LIES: says before all that it is: a CLAIM");
        TownKnows town = new TownKnows();
        lay(town);
        lies(town, 3);
        Due.is("worlds", town.all(2), 8);
        Due.is("the real one", town.all(3), 7);
        Due.is("who lies knows no more", town.known(1, true), 0);
        Due.is("nor does another", town.known(2, true), 0);
        Due.is("it is an act", town.undo(), 11);
    }

    private static void claimKeepsItsSigns() {
        Due.says("Terms 4: a CLAIM, of the SIGNS of that sentence as they are then");
        TownKnows town = new TownKnows();
        Due.write(town, 0, 0);
        Due.is("lie", town.lie(0, 0), 0);
        Due.write(town, 1, 0, 29);
        Due.is("1 believes it", town.holds(1), 1);
        town.sign(0, 10);
        Due.is("one more sign is no matter", town.holds(1), 1);
        town.blank(0);
        Due.is("nor is none", town.holds(1), 1);
        Rich.numbers(town, 0, 8, 0, 10);
        town.write(0, 0);
        Due.is("nor are others", town.holds(1), 1);
        Due.is("it is not clashed", town.clashed(0, 1), 0);
        Due.is("the next one has them", town.lie(0, 0), 1);
        Due.is("and clashes with it", town.clashed(0, 1), 1);
        Due.is("1 believes the later one", town.holds(1), 0);
    }

    private static void clashedFindings() {
        Due.says("Promise 15: BEYOND");
        Twin none = new Twin(EdgeClaimTest::lay);
        none.refuses("clashed(0, 0) of none", Due.BEYOND, t -> t.clashed(0, 0));
        for (int claims = 1; claims <= 5; claims++) {
            int count = claims;
            Twin town = new Twin(t -> {
                lay(t);
                lies(t, count);
            });
            for (int claim : Due.outside(0, count - 1)) {
                town.refuses("clashed(" + claim + ", 0) of " + count, Due.BEYOND, t -> t.clashed(claim, 0));
            }
            town.tells("the last one", 0, t -> t.clashed(count - 1, 2));
        }
    }

    private static void clashedAlone() {
        Due.says("A CLAIM has CLASHED for a PERSON if none of its WORLDS had it so");
        TownKnows town = new TownKnows();
        town.begin(2, 1, 0);
        Due.write(town, 0, 0);
        Due.write(town, 1, 0, 0, 10, 11);
        town.lie(1, 0);
        Due.is("1 holds it possible", town.clashed(0, 1), 0);
        town.see(0, 0);
        Due.is("1 still does", town.clashed(0, 1), 0);
        Due.is("0 sees that it is not so", town.clashed(0, 0), 1);
        town.lie(0, 1);
        Due.is("what is never so clashes at once", town.clashed(1, 1), 1);
        Due.is("and leaves the earlier one as it was", town.clashed(0, 1), 0);
    }

    private static void clashedOfLaterOnes() {
        Due.says("CLASHED: none of its WORLDS that remained of later ones had it so");
        TownKnows town = new TownKnows();
        town.begin(2, 2, 0);
        Due.write(town, 0, 0);
        Due.write(town, 1, 0, 10);
        Due.write(town, 2, 1);
        town.lie(0, 0);
        town.lie(0, 2);
        Due.is("they go together", town.clashed(0, 1), 0);
        Due.is("the last one has no later ones", town.clashed(1, 1), 0);
        town.lie(0, 1);
        Due.is("the first clashes with the last", town.clashed(0, 1), 1);
        Due.is("the middle one does not", town.clashed(1, 1), 0);
        Due.is("the last does not, whatever the earlier ones say", town.clashed(2, 1), 0);
        town.lie(0, 0);
        Due.is("now the third clashes", town.clashed(2, 1), 1);
        Due.is("and the first is as the last", town.clashed(0, 1), 0);
    }

    private static void clashedOfTheRealCell() {
        Due.says("CLASHED: its WORLDS (CELL of THE REAL one)");
        TownKnows town = new TownKnows();
        town.begin(3, 2, 2);
        Due.write(town, 0, 0);
        town.lie(1, 0);
        town.see(0, 0);
        Due.is("worlds", town.all(2), 4);
        Due.is("0 is where it is not so", town.clashed(0, 0), 1);
        town.begin(3, 2, 1);
        town.lie(1, 0);
        town.see(0, 0);
        Due.is("0 is where it is so", town.clashed(0, 0), 0);
    }

    private static void clashedBehindAnAct() {
        Due.says("Terms 4: LIES are believed until they clash");
        TownKnows town = new TownKnows();
        town.begin(2, 1, 0);
        Due.write(town, 0, 0);
        Due.write(town, 1, 0, 10);
        Due.write(town, 2, 0, 29);
        town.lie(0, 0);
        Due.is("1 believes it", town.holds(2), 1);
        town.see(0, 0);
        Due.is("0 cries that it is not so", town.cry(0, 1), 1);
        Due.is("it clashed", town.clashed(0, 1), 1);
        Due.is("1 believes it no more", town.holds(2), 0);
        Due.is("the claim stays", town.all(4), 1);
    }

    private static void clashedInOneWorld() {
        Due.says("CLASHED: its WORLDS (CELL of THE REAL one)");
        for (int real = 0; real < 2; real++) {
            TownKnows town = new TownKnows();
            town.begin(1, 1, real);
            Due.write(town, 0, 0);
            town.lie(0, 0);
            Due.is("see", town.see(0, 0), 1);
            Due.is("clashed if it is not so", town.clashed(0, 0), 1 - real);
            Due.write(town, 1, 0, 28);
            Due.is("believed if it is so", town.holds(1), real);
        }
    }

    /** That 1 knows it is so nowhere at first; when 1 saw it there are as many worlds, but it is so at one. */
    private static void clashedAsWorldsAreNow() {
        Due.says("CLASHED: none of its WORLDS had it so");
        TownKnows town = new TownKnows();
        town.begin(2, 1, 1);
        Due.write(town, 0, 0, 21);
        town.lie(0, 0);
        Due.is("so nowhere", town.clashed(0, 1), 1);
        Due.is("for 0, too", town.clashed(0, 0), 1);
        Due.is("1 sees it", town.see(1, 0), 2);
        Due.is("so here", town.clashed(0, 1), 0);
        Due.is("0 holds that possible", town.clashed(0, 0), 0);
        Due.is("undo", town.undo(), 5);
        Due.is("so nowhere", town.clashed(0, 1), 1);
    }

    private static void swearFindings() {
        Due.says("Promise 16: BEYOND. KIND: it swore that one");
        Twin rich = new Twin(Rich::lay);
        rich.refuses("1 swore on 0", Due.KIND, t -> t.swear(1, 0));
        rich.refuses("2 swore on 0", Due.KIND, t -> t.swear(2, 0));
        rich.refuses("2 swore on 1", Due.KIND, t -> t.swear(2, 1));
        rich.refuses("no such person", Due.BEYOND, t -> t.swear(3, 0));
        rich.refuses("no such fact, of one that swore on all", Due.BEYOND, t -> t.swear(2, 2));
    }

    private static void swearEachOnce() {
        Due.says("Promise 16: how many OATHS the PERSON swore");
        for (int p = 0; p < 4; p++) {
            TownKnows town = new TownKnows();
            town.begin(4, 4, 0);
            for (int count = 1; count <= 4; count++) {
                int fact = (count * 3 + p) % 4;
                Due.is("swear(" + p + ", " + fact + ")", town.swear(p, fact), count);
                Due.is("again", town.swear(p, fact), Due.KIND);
            }
            Due.is("another one swore none", town.swear((p + 1) % 4, 0), 1);
        }
    }

    private static void swearAgain() {
        Due.says("Promise 16: KIND: it swore that one. Promise 2: no OATHS. Promise 33: swear is undone");
        TownKnows town = new TownKnows();
        Due.is("swear", town.swear(0, 0), 1);
        Due.is("undo", town.undo(), 0);
        Due.is("swear", town.swear(0, 0), 1);
        Due.is("again", town.swear(0, 0), Due.KIND);
        town.begin(2, 2, 0);
        Due.is("anew", town.swear(0, 0), 1);
        Due.is("again", town.swear(0, 0), Due.KIND);
        town.undo();
        Due.is("undo begin", town.undo(), 1);
        Due.is("the oath is there", town.swear(0, 0), Due.KIND);
    }

    private static void pactFindingsInOrder() {
        Due.says("Promise 17: BEYOND, KIND, FULL, in this order");
        Twin town = new Twin(EdgeClaimTest::lay);
        for (int g : Due.outside(0, 2)) {
            town.refuses("pact(0, " + g + ")", Due.BEYOND, t -> t.pact(0, g));
            town.refuses("pact(3, " + g + ")", Due.BEYOND, t -> t.pact(3, g));
        }
        town.refuses("kind", Due.KIND, t -> t.pact(3, 0));
        Twin full = new Twin(t -> {
            lay(t);
            for (int i = 0; i < 4; i++) {
                Due.is("pact", t.pact(i % 3, i % 3), i);
            }
        });
        full.refuses("full", Due.FULL, t -> t.pact(0, 0));
        full.refuses("kind ahead of full", Due.KIND, t -> t.pact(3, 0));
        full.refuses("beyond ahead of full", Due.BEYOND, t -> t.pact(6, 0));
        full.refuses("beyond ahead of full", Due.BEYOND, t -> t.pact(0, 3));
    }

    private static void fourPacts() {
        Due.says("Terms 4: PACTS (at most 4). Promise 17: its number");
        TownKnows town = new TownKnows();
        Due.write(town, 0, 0);
        for (int pact = 0; pact < 4; pact++) {
            Due.is("pacts ahead", town.all(5), pact);
            Due.is("pact", town.pact(0, 2), pact);
        }
        Due.is("a fifth", town.pact(0, 2), Due.FULL);
        Due.is("four", town.all(5), 4);
        Due.is("undo", town.undo(), 5);
        Due.is("a fourth anew", town.pact(0, 1), 3);
        town.begin(2, 2, 0);
        Due.is("a first anew", town.pact(0, 1), 0);
        Due.write(town, 1, 0, 28);
        Due.is("a pact may have BELIEVES", town.pact(1, 0), 1);
        town.swear(0, 0);
        Due.is("oaths are not asked", town.pact(0, 0), 2);
    }

    private static void pactKeepsItsSigns() {
        Due.says("PACTS: a sentence (its SIGNS as they are then)");
        TownKnows town = new TownKnows();
        town.begin(2, 1, 1);
        Due.write(town, 0, 0);
        Due.is("pact", town.pact(0, 0), 0);
        Due.is("it binds", town.binding(), 1);
        town.sign(0, 10);
        Due.is("one more sign is no matter", town.binding(), 1);
        town.blank(0);
        Due.is("nor is none", town.binding(), 1);
        Rich.numbers(town, 0, 8, 0, 10);
        town.write(0, 0);
        Due.is("nor are others", town.binding(), 1);
        Due.is("the next has them", town.pact(0, 0), 1);
        Due.is("and does not bind", town.binding(), 1);
    }

    private static void pactOfAGroupOfNone() {
        Due.says("it BINDS when that is COMMON in the GROUP at THE REAL WORLD (with that itself)");
        for (int real = 0; real < 2; real++) {
            TownKnows town = new TownKnows();
            town.begin(2, 1, real);
            Due.write(town, 0, 0);
            town.pact(0, 0);
            Due.is("of a group of none: if it is so", town.binding(), real);
            town.group(0, 1);
            Due.is("of a group of one that does not know", town.binding(), 0);
            town.see(0, 0);
            Due.is("of a group of one that knows whether", town.binding(), real);
            town.group(0, 3);
            Due.is("of two, of which one knows", town.binding(), 0);
        }
    }

    private static void pactOfSuchAsAreNotThere() {
        Due.says("GROUPS are sets of PERSONS; PERSONS that are not there count for nothing");
        TownKnows town = new TownKnows();
        town.begin(2, 1, 1);
        Due.write(town, 0, 0);
        town.pact(0, 0);
        town.see(0, 0);
        town.group(0, 12);
        Due.is("none of them is there", town.binding(), 1);
        town.group(0, 13);
        Due.is("0 knows it", town.binding(), 1);
        town.group(0, 14);
        Due.is("1 does not", town.binding(), 0);
    }

    private static void bindingAsBits() {
        Due.says("Promise 18: which PACTS BIND, as bits");
        TownKnows town = new TownKnows();
        Due.is("no pacts", town.binding(), 0);
        for (int bits = 0; bits < 16; bits++) {
            town.begin(2, 4, bits);
            for (int f = 0; f < 4; f++) {
                Due.write(town, 0, f);
                Due.is("pact", town.pact(0, 0), f);
            }
            Due.is("each that is so", town.binding(), bits);
        }
        Due.is("no finding", town.all(7), 0);
        Twin rich = new Twin(Rich::lay);
        // fact 0 is common in 0 and 1, and that 1 knows it is so at THE REAL one (group 2: none that is there)
        rich.tells("binding", 3, t -> t.binding());
    }

    private static void bindingOfTheGroupAsItIs() {
        Due.says("PACTS: a sentence (its SIGNS as they are then) and a GROUP");
        TownKnows town = new TownKnows();
        town.begin(3, 1, 1);
        town.see(0, 0);
        Due.write(town, 0, 0);
        town.group(1, 1);
        town.pact(0, 1);
        Due.is("0 knows it", town.binding(), 1);
        town.group(1, 3);
        Due.is("1 is of the group now", town.binding(), 0);
        town.group(0, 3);
        town.group(1, 1);
        Due.is("another group is no matter", town.binding(), 1);
        town.group(2, 7);
        Due.is("another group is no matter", town.binding(), 1);
        Due.write(town, 0, 0, 33);
        Due.is("a pact whose sentence has a group", town.pact(0, 0), 1);
        Due.is("that 0 knows it is not common", town.binding(), 1);
        town.group(1, 0);
        Due.is("that each of none knows it is", town.binding(), 3);
    }
}
