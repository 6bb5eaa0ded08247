/** The boundaries of promises 33 and 34: undo, all. */
final class EdgeWholeTest {
    public static void main(String[] args) {
        undoOfNothing();
        undoAtMostTwelve();
        undoEachAct();
        undoOfWhatChangedNothing();
        undoOfNoFinding();
        undoOfNoQuestion();
        undoIsNoAct();
        undoGoesRound();
        undoTakesBackNoSheet();
        undoTakesBackNoFinding();
        undoWithinTheLatest();
        allOfAnotherWhat();
        allOfPersonsAndFacts();
        allOfWorlds();
        allCountsUpAndDown();
        allOfFindings();
        allOfFindingsOfEachCall();
        Due.end("EdgeWholeTest");
    }

    /** Ten acts, so that one more and its undo leave as many. */
    private static void lay(TownKnows town) {
        Rich.numbers(town, 0, 8, 0);
        Rich.numbers(town, 1, 8, 1, 1, 10, 12);
        Rich.numbers(town, 2, 8, 0, 21);
        town.write(0, 0);
        town.write(1, 1);
        town.write(2, 2);
        town.begin(3, 2, 3);
        town.see(0, 0);
        town.group(0, 3);
        town.lie(1, 0);
        town.pact(0, 0);
        town.swear(1, 0);
        town.mark();
    }

    private static void undoOfNothing() {
        Due.says("Promise 33: NONE");
        Twin fresh = new Twin(t -> { });
        fresh.refuses("undo of a new object", Due.NONE, t -> t.undo());
        Twin back = new Twin(t -> {
            lay(t);
            for (int i = 0; i < 10; i++) {
                t.undo();
            }
        });
        back.refuses("undo behind all", Due.NONE, t -> t.undo());
        TownKnows town = new TownKnows();
        Due.is("nothing", town.undo(), Due.NONE);
        Due.is("nothing still", town.undo(), Due.NONE);
        town.sign(0, 0);
        Due.is("one", town.undo(), 0);
        Due.is("nothing again", town.undo(), Due.NONE);
        Due.is("each was counted", town.all(7), 3);
    }

    private static void undoAtMostTwelve() {
        Due.says("Promise 33: how many more can be. (The latest 12 are kept)");
        for (int acts = 0; acts <= 40; acts++) {
            TownKnows town = new TownKnows();
            for (int i = 0; i < acts; i++) {
                town.group(0, i % 16);
            }
            int kept = Math.min(acts, 12);
            for (int left = kept - 1; left >= 0; left--) {
                Due.is("undo behind " + acts, town.undo(), left);
            }
            Due.is("no more behind " + acts, town.undo(), Due.NONE);
            int was = acts - kept;
            Due.is("the group behind " + acts, town.group(0, 0), was == 0 ? 0 : (was - 1) % 16);
        }
    }

    private static void returns(Twin town, String act, Twin.Call call) {
        town.tells("undo of " + act, 10, t -> {
            Due.is(act + " answers no finding", call.on(t) > -99999 ? 1 : 0, 1);
            return t.undo();
        });
    }

    private static void undoEachAct() {
        Due.says("Promise 33: begin, go, group, sign, blank, write, see, tell, openly, cry, lie, swear, pact, mark");
        Twin town = new Twin(EdgeWholeTest::lay);
        returns(town, "begin", t -> t.begin(1, 1, 0));
        returns(town, "go", t -> t.go(2, 3));
        returns(town, "group", t -> t.group(1, 15));
        returns(town, "sign", t -> t.sign(5, 3));
        returns(town, "sign of a row", t -> t.sign(0, 10));
        returns(town, "blank", t -> t.blank(2));
        returns(town, "write", t -> t.write(0, 2));
        returns(town, "see", t -> t.see(1, 0));
        returns(town, "tell", t -> t.tell(0, 1, 0));
        returns(town, "openly", t -> t.openly(0, 2, 0));
        returns(town, "cry", t -> t.cry(0, 0));
        returns(town, "lie", t -> t.lie(2, 0));
        returns(town, "swear", t -> t.swear(0, 1));
        returns(town, "pact", t -> t.pact(2, 1));
        returns(town, "mark", t -> t.mark());
    }

    private static void undoOfWhatChangedNothing() {
        Due.says("Promise 33: (also such as changed nothing)");
        Twin town = new Twin(EdgeWholeTest::lay);
        returns(town, "go where it is", t -> t.go(0, 0));
        returns(town, "group as it is", t -> t.group(0, 3));
        returns(town, "blank of none", t -> t.blank(5));
        returns(town, "write as it is", t -> t.write(0, 0));
        returns(town, "see what it saw", t -> t.see(0, 0));
        returns(town, "tell what is always so", t -> t.tell(0, 1, 1));
        returns(town, "openly what is always so", t -> t.openly(0, 1, 1));
        returns(town, "cry what is always so", t -> t.cry(0, 1));
        TownKnows fresh = new TownKnows();
        Due.is("begin as it is", fresh.begin(2, 2, 0), 4);
        Due.is("it is kept", fresh.undo(), 0);
    }

    private static void undoOfNoFinding() {
        Due.says("Promise 33: the latest act .. without a finding");
        TownKnows town = new TownKnows();
        town.begin(2, 1, 1);
        town.sign(0, 0);
        town.begin(0, 0, 0);
        town.go(9, 0);
        town.group(9, 0);
        town.sign(0, 9);
        town.blank(9);
        town.write(0, 0);
        town.see(9, 0);
        town.tell(0, 1, 0);
        town.openly(0, 1, 0);
        town.cry(0, 0);
        town.lie(9, 0);
        town.swear(0, 9);
        town.pact(9, 0);
        Due.is("thirteen findings", town.all(7), 13);
        Due.is("the sign is undone", town.undo(), 1);
        Due.is("it was", town.wrong(0), 0);
        Due.is("begin is undone", town.undo(), 0);
        Due.is("two facts", town.all(1), 2);
        for (int i = 0; i < 6; i++) {
            town.mark();
        }
        Due.is("a seventh mark", town.mark(), Due.FULL);
        Due.is("the sixth is undone", town.undo(), 5);
        Due.is("five", town.all(6), 5);
    }

    private static void undoOfNoQuestion() {
        Due.says("Promise 33: the latest act that changed the town (begin, go, .. mark)");
        TownKnows town = new TownKnows();
        lay(town);
        town.sheet(3, 8, 3);
        town.put(3, 0, 1);
        town.copy(3, 0, 3, 1, 1);
        town.as(0, 0, 0);
        town.wrong(0);
        town.clashed(0, 0);
        town.binding();
        town.holds(0);
        town.many(0);
        town.fails(0);
        town.like(0, 1);
        town.world(0, 0);
        town.known(0, true);
        town.lessons(2);
        town.lesson(2, 0);
        town.then(0, 0);
        town.since(0);
        town.all(0);
        Due.is("none answered a finding", town.all(7), 0);
        Due.is("the mark is undone", town.undo(), 9);
        Due.is("no mark", town.all(6), 0);
    }

    private static void undoIsNoAct() {
        Due.says("Promise 33: the latest act is undone: how many more can be");
        TownKnows town = new TownKnows();
        for (int set = 1; set <= 3; set++) {
            town.group(0, set);
        }
        Due.is("undo", town.undo(), 2);
        Due.is("undo once more goes on", town.undo(), 1);
        Due.is("the first is left", town.group(0, 9), 1);
        Due.is("undo that", town.undo(), 1);
        Due.is("undo the first", town.undo(), 0);
        Due.is("none", town.group(0, 0), 0);
    }

    private static void undoGoesRound() {
        Due.says("Promise 33: (The latest 12 are kept)");
        TownKnows town = new TownKnows();
        for (int i = 1; i <= 20; i++) {
            town.group(0, i % 16);
        }
        for (int left = 11; left >= 7; left--) {
            Due.is("undo", town.undo(), left);
        }
        for (int i = 0; i < 3; i++) {
            town.group(1, i + 1);
        }
        Due.is("seven and three", town.undo(), 9);
        Due.is("and", town.undo(), 8);
        for (int i = 0; i < 9; i++) {
            town.group(2, i + 1);
        }
        for (int left = 11; left >= 0; left--) {
            Due.is("twelve again", town.undo(), left);
        }
        Due.is("no more", town.undo(), Due.NONE);
        Due.is("group 2", town.group(2, 0), 0);
        Due.is("group 1", town.group(1, 0), 0);
        // twenty acts; five undone; then ten, of which twelve are kept: the thirteenth of group 0 is what is left
        Due.is("group 0", town.group(0, 0), 13);
    }

    private static void undoTakesBackNoSheet() {
        Due.says("Promise 33: sheets are not of the town");
        TownKnows town = new TownKnows();
        Rich.numbers(town, 0, 8, 0);
        Due.is("write", town.write(0, 0), 1);
        town.put(0, 0, 3);
        Due.is("undo", town.undo(), 0);
        Due.is("the sentence is empty", town.wrong(0), 0);
        Due.is("write", town.write(0, 0), 1);
        Due.is("the number is as it was put", town.as(0, 0, 0), 3);
    }

    private static void undoTakesBackNoFinding() {
        Due.says("Promise 34: how many acts answered a finding ever");
        TownKnows town = new TownKnows();
        town.begin(2, 2, 0);
        town.go(9, 9);
        town.go(0, 9);
        Due.is("two", town.all(7), 2);
        Due.is("undo", town.undo(), 0);
        Due.is("two", town.all(7), 2);
        Due.is("undo", town.undo(), Due.NONE);
        Due.is("three", town.all(7), 3);
        town.begin(1, 1, 1);
        Due.is("three", town.all(7), 3);
    }

    /** What was changed thirteen acts ago stays, what was changed twelve acts ago comes back. */
    private static void undoWithinTheLatest() {
        Due.says("Promise 33: (The latest 12 are kept)");
        for (int more = 10; more <= 13; more++) {
            TownKnows town = new TownKnows();
            town.begin(4, 4, 9);
            for (int i = 0; i < more; i++) {
                town.go(3, i % 4);
            }
            int undos = Math.min(more + 1, 12);
            for (int i = 0; i < undos; i++) {
                Due.is("undo", town.undo(), undos - 1 - i);
            }
            Due.is("persons with " + more + " more", town.all(0), more + 1 <= 12 ? 2 : 4);
        }
    }

    private static void allOfAnotherWhat() {
        Due.says("Promise 34: BEYOND: another what");
        Twin rich = new Twin(Rich::lay);
        for (int what : Due.outside(0, 7)) {
            rich.refuses("all(" + what + ")", Due.BEYOND, t -> t.all(what));
        }
        int[] due = {3, 2, 8, 7, 2, 2, 2, 0};
        for (int i = 0; i < due.length; i++) {
            int what = i;
            rich.tells("all(" + what + ")", due[what], t -> t.all(what));
        }
    }

    private static void allOfPersonsAndFacts() {
        Due.says("Promise 34: 0 PERSONS, 1 FACTS, 2 WORLDS, 3 THE REAL one");
        for (int n = 1; n <= 4; n++) {
            for (int m = 1; m <= 4; m++) {
                TownKnows town = new TownKnows();
                town.begin(n, m, (1 << m) - 2);
                Due.is("persons", town.all(0), n);
                Due.is("facts", town.all(1), m);
                Due.is("worlds", town.all(2), 1 << m);
                Due.is("the real one", town.all(3), (1 << m) - 2);
            }
        }
    }

    private static void allOfWorlds() {
        Due.says("Promise 34: 2 WORLDS (1 to 64), 3 THE REAL one");
        TownKnows town = new TownKnows();
        town.begin(4, 4, 15);
        town.see(3, 3);
        town.go(2, 2);
        Due.write(town, 0, 3);
        Due.is("tell", town.tell(3, 1, 0), 32);
        Due.is("tell", town.tell(3, 0, 0), 64);
        Due.is("worlds", town.all(2), 64);
        Due.is("the real one", town.all(3), 63);
        Due.is("the last one's facts", town.world(63, -1), 15);
        for (int p = 0; p < 4; p++) {
            for (int f = 0; f < 4; f++) {
                town.see(p, f);
            }
        }
        Due.is("one world", town.all(2), 1);
        Due.is("the real one", town.all(3), 0);
    }

    private static void allCountsUpAndDown() {
        Due.says("Promise 34: 4 CLAIMS, 5 PACTS, 6 MARKS");
        TownKnows town = new TownKnows();
        town.sign(0, 0);
        for (int i = 1; i <= 5; i++) {
            town.lie(0, 0);
            Due.is("claims", town.all(4), i);
        }
        for (int i = 1; i <= 4; i++) {
            town.pact(0, 0);
            Due.is("pacts", town.all(5), i);
        }
        for (int i = 1; i <= 6; i++) {
            town.mark();
            Due.is("marks", town.all(6), i);
        }
        for (int i = 5; i >= 0; i--) {
            town.undo();
            Due.is("marks", town.all(6), i);
        }
        for (int i = 3; i >= 0; i--) {
            town.undo();
            Due.is("pacts", town.all(5), i);
        }
        Due.is("claims", town.all(4), 5);
    }

    private static void allOfFindings() {
        Due.says("Promise 34: 7 how many acts answered a finding ever (this one, too, if it does)");
        TownKnows town = new TownKnows();
        Due.is("none", town.all(7), 0);
        Due.is("to ask is none", town.all(7), 0);
        for (int i = 1; i <= 60; i++) {
            Due.is("all(8)", town.all(8), Due.BEYOND);
            Due.is("this one, too", town.all(7), i);
        }
        Due.is("an answer of -1 is none", town.wrong(town.sign(0, 0) - 1), -1);
        Due.is("still", town.all(7), 60);
        Due.is("each object has its own", new TownKnows().all(7), 0);
    }

    private static void allOfFindingsOfEachCall() {
        Due.says("Promise 34: 7 how many acts answered a finding ever");
        Twin.Call[] calls = {t -> t.begin(0, 1, 0), t -> t.go(0, 4), t -> t.group(3, 0), t -> t.sign(6, 0), t -> t.blank(6),
            t -> t.write(0, 3), t -> t.as(0, 0, 1), t -> t.wrong(6), t -> t.see(3, 0), t -> t.tell(0, 0, 0),
            t -> t.tell(0, 2, 0), t -> t.openly(0, 1, 3), t -> t.cry(1, 0), t -> t.lie(0, 0), t -> t.clashed(2, 0),
            t -> t.swear(1, 0), t -> t.pact(3, 0), t -> t.holds(3), t -> t.many(5), t -> t.fails(6), t -> t.like(0, 3),
            t -> t.world(8, 0), t -> t.known(3, true), t -> t.lessons(3), t -> t.lesson(0, 0), t -> t.then(2, 0),
            t -> t.since(3), t -> t.sheet(0, 8, -1), t -> t.put(3, 0, 0), t -> t.copy(0, 0, 1, 0, 1), t -> t.all(-1)};
        TownKnows town = new TownKnows();
        Rich.lay(town);
        for (int i = 0; i < calls.length; i++) {
            Due.is("call " + i + " answers a finding", calls[i].on(town) < -99999 ? 1 : 0, 1);
            Due.is("findings behind call " + i, town.all(7), i + 1);
        }
    }
}
