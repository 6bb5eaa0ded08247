/** The boundaries of what is so AT a WORLD (Terms 2) and of promises 19 to 24. */
final class EdgeSoTest {
    public static void main(String[] args) {
        findingsInOrder();
        notRight();
        holds();
        many();
        failsTheLeast();
        failsNone();
        like();
        worldThatIsNotThere();
        worldOfNobody();
        worldLeast();
        knownBits();
        knownWhether();
        knowsInACellOfOne();
        thinksAtOneAtLeast();
        commonWithThatItself();
        commonWithinTheSet();
        eachOfNone();
        togetherOfNone();
        togetherOfOne();
        groupOfSuchAsAreNotThere();
        onceNowhere();
        onceEverywhere();
        onceWithinOnce();
        believesWithoutClaims();
        believesWhenAllClash();
        believesTheLatestFirst();
        believesWithinTheSet();
        sixtyFourWorlds();
        sixtyFourWorldsAndClaims();
        Due.end("EdgeSoTest");
    }

    /** Seen through many, fails and holds: the worlds (as bits) at which a sentence is so. */
    private static void so(TownKnows town, String what, int worlds, int... signs) {
        town.blank(5);
        Rich.row(town, 5, signs);
        int every = (1 << town.all(2)) - 1;
        Due.is(what + ": many", town.many(5), Integer.bitCount(worlds));
        Due.is(what + ": holds", town.holds(5), worlds >> town.all(3) & 1);
        Due.is(what + ": fails", town.fails(5),
            every == worlds ? Due.NONE : Integer.numberOfTrailingZeros(~worlds));
    }

    private static void findingsInOrder() {
        Due.says("Promises 19 to 22: BEYOND. KIND");
        Twin rich = new Twin(Rich::lay);
        rich.refuses("like: beyond ahead of kind", Due.BEYOND, t -> t.like(3, 6));
        rich.refuses("like: beyond ahead of kind", Due.BEYOND, t -> t.like(-1, 3));
        rich.refuses("like: both are beyond", Due.BEYOND, t -> t.like(6, 6));
        rich.refuses("like: the one is not right", Due.KIND, t -> t.like(3, 0));
        rich.refuses("like: the other is not right", Due.KIND, t -> t.like(0, 3));
        rich.refuses("like: neither is right", Due.KIND, t -> t.like(3, 5));
        rich.refuses("like: the same that is not right", Due.KIND, t -> t.like(3, 3));
    }

    private static void notRight() {
        Due.says("KIND: it is not RIGHT");
        Twin rich = new Twin(Rich::lay);
        for (int sentence : new int[] {3, 5}) {
            int s = sentence;
            rich.refuses("holds(" + s + ")", Due.KIND, t -> t.holds(s));
            rich.refuses("many(" + s + ")", Due.KIND, t -> t.many(s));
            rich.refuses("fails(" + s + ")", Due.KIND, t -> t.fails(s));
            rich.refuses("lessons(" + s + ")", Due.KIND, t -> t.lessons(s));
            rich.refuses("lesson(" + s + ", 0)", Due.KIND, t -> t.lesson(s, 0));
            rich.refuses("then(0, " + s + ")", Due.KIND, t -> t.then(0, s));
            rich.refuses("since(" + s + ")", Due.KIND, t -> t.since(s));
        }
        Twin fewer = new Twin(t -> {
            Rich.lay(t);
            t.begin(1, 1, 1);
        });
        fewer.tells("fact 0", 1, t -> t.holds(0));
        fewer.refuses("fact 1 is not there any more", Due.KIND, t -> t.holds(1));
        fewer.refuses("person 1 is not there any more", Due.KIND, t -> t.many(2));
        fewer.refuses("nor to believe", Due.KIND, t -> t.fails(4));
    }

    private static void holds() {
        Due.says("Promise 19: whether a SENTENCE is so at THE REAL WORLD: 1, 0");
        for (int real = 0; real < 16; real++) {
            TownKnows town = new TownKnows();
            town.begin(1, 4, real);
            for (int f = 0; f < 4; f++) {
                Due.write(town, 0, f);
                Due.is("fact " + f + " in " + real, town.holds(0), real >> f & 1);
                town.sign(0, 10);
                Due.is("not fact " + f + " in " + real, town.holds(0), 1 - (real >> f & 1));
            }
        }
        Twin rich = new Twin(Rich::lay);
        rich.tells("holds", 1, t -> t.holds(0));
        rich.tells("many", 4, t -> t.many(0));
        rich.tells("fails", 0, t -> t.fails(0));
        rich.tells("like", 0, t -> t.like(0, 1));
        rich.tells("world", 3, t -> t.world(7, -1));
        rich.tells("known", 1, t -> t.known(1, false));
    }

    private static void many() {
        Due.says("Promise 20: at how many WORLDS it is so");
        for (int m = 1; m <= 4; m++) {
            TownKnows town = new TownKnows();
            town.begin(2, m, 0);
            Due.write(town, 0, 0);
            Due.is("half", town.many(0), 1 << (m - 1));
            Due.write(town, 0, 0, 0, 10, 12);
            Due.is("all", town.many(0), 1 << m);
            Due.write(town, 0, 0, 0, 10, 11);
            Due.is("none", town.many(0), 0);
        }
        TownKnows one = new TownKnows();
        one.begin(1, 1, 1);
        one.see(0, 0);
        Due.write(one, 0, 0);
        Due.is("of one world", one.many(0), 1);
        one.sign(0, 10);
        Due.is("of one world", one.many(0), 0);
    }

    private static void failsTheLeast() {
        Due.says("Promise 21: the least WORLD at which it is not so");
        TownKnows town = new TownKnows();
        town.begin(2, 2, 1);
        so(town, "at the first not", 0b1110, 0, 1, 12);
        so(town, "at the last not", 0b0111, 0, 1, 11, 10);
        so(town, "at two not", 0b1010, 0);
        so(town, "at the last two not", 0b0011, 1, 10);
        so(town, "nowhere", 0, 0, 20);
    }

    private static void failsNone() {
        Due.says("Promise 21: NONE");
        Twin always = new Twin(t -> {
            Rich.lay(t);
            Rich.row(t, 5, 0, 0, 10, 12);
        });
        always.refuses("fails of what is always so", Due.NONE, t -> t.fails(5));
        Twin one = new Twin(t -> {
            t.begin(1, 1, 1);
            t.see(0, 0);
            t.sign(0, 0);
        });
        one.refuses("fails, of one world", Due.NONE, t -> t.fails(0));
    }

    private static void like() {
        Due.says("Promise 22: whether two SENTENCES are so at the same WORLDS: 1, 0");
        TownKnows town = new TownKnows();
        Due.write(town, 0, 0);
        Due.write(town, 1, 1);
        Due.write(town, 2, 0, 10, 10);
        Due.write(town, 3, 0, 20);
        Due.write(town, 4, 1, 21);
        Due.is("itself", town.like(0, 0), 1);
        Due.is("other signs, the same worlds", town.like(0, 2), 1);
        Due.is("the other way round", town.like(2, 0), 1);
        Due.is("as many, others", town.like(0, 1), 0);
        Due.is("both nowhere", town.like(3, 4), 1);
        Due.is("nowhere and somewhere", town.like(3, 0), 0);
        Due.is("at THE REAL one neither is, yet", town.holds(0) + town.holds(1), 0);
        town.see(0, 0);
        Due.is("now 0 knows it where it is so", town.like(3, 0), 1);
    }

    private static void worldThatIsNotThere() {
        Due.says("Promise 23: BEYOND");
        Twin rich = new Twin(Rich::lay);
        for (int w : Due.outside(0, 7)) {
            for (int person = -1; person < 3; person++) {
                int p = person;
                rich.refuses("world(" + w + ", " + p + ")", Due.BEYOND, t -> t.world(w, p));
            }
        }
        for (int p : Due.outside(-1, 2)) {
            rich.refuses("world(0, " + p + ")", Due.BEYOND, t -> t.world(0, p));
        }
        TownKnows town = new TownKnows();
        town.begin(1, 1, 1);
        Due.is("two worlds", town.world(1, -1), 1);
        town.see(0, 0);
        Due.is("one world", town.world(1, -1), Due.BEYOND);
        Due.is("one world", town.world(0, -1), 1);
        Due.is("of itself", town.world(0, 0), 0);
    }

    private static void worldOfNobody() {
        Due.says("Promise 23: its FACTS, as bits (person -1)");
        TownKnows town = new TownKnows();
        town.begin(4, 4, 5);
        for (int w = 0; w < 16; w++) {
            Due.is("world(" + w + ", -1)", town.world(w, -1), w);
        }
        Due.is("person -2", town.world(0, -2), Due.BEYOND);
        Due.is("person 4", town.world(0, 4), Due.BEYOND);
        Due.is("person 3", town.world(15, 3), 0);
    }

    private static void worldLeast() {
        Due.says("Promise 23: or the least WORLD of its CELL of a PERSON");
        TownKnows town = new TownKnows();
        town.begin(2, 2, 0);
        town.see(1, 0);
        int[] least = {0, 1, 0, 1};
        for (int w = 0; w < 4; w++) {
            Due.is("0", town.world(w, 0), 0);
            Due.is("1", town.world(w, 1), least[w]);
        }
        town.see(1, 1);
        for (int w = 0; w < 4; w++) {
            Due.is("1, each alone", town.world(w, 1), w);
        }
    }

    private static void knownBits() {
        Due.says("Promise 24: which FACTS a PERSON KNOWS to be so, as bits");
        for (int real = 0; real < 16; real++) {
            TownKnows town = new TownKnows();
            town.begin(2, 4, real);
            int seen = 0;
            for (int f = 3; f >= 0; f--) {
                Due.is("to be so", town.known(1, false), seen & real);
                Due.is("whether", town.known(1, true), seen);
                town.see(1, f);
                seen |= 1 << f;
            }
            Due.is("all to be so", town.known(1, false), real);
            Due.is("all whether", town.known(1, true), 15);
            Due.is("the other knows nothing", town.known(0, true), 0);
        }
    }

    private static void knownWhether() {
        Due.says("Promise 24: (whether: KNOWS whether they are so)");
        TownKnows town = new TownKnows();
        town.begin(2, 1, 0);
        town.see(0, 0);
        Due.is("it is not so", town.known(0, false), 0);
        Due.is("and that is known", town.known(0, true), 1);
        Due.write(town, 0, 0);
        town.lie(0, 0);
        Due.is("to believe is not to know", town.known(1, false), 0);
        Due.is("to believe is not to know", town.known(1, true), 0);
    }

    private static void knowsInACellOfOne() {
        Due.says("KNOWS: at all WORLDS of the set in the CELL");
        TownKnows town = new TownKnows();
        town.begin(2, 2, 2);
        town.see(0, 0);
        so(town, "0 knows 0", 0b1010, 0, 20);
        so(town, "0 knows 1 nowhere", 0, 1, 20);
        town.see(0, 1);
        so(town, "in cells of one: where it is so", 0b1100, 1, 20);
        so(town, "knows that it knows", 0b1100, 1, 20, 20);
        so(town, "knows that it does not", 0b0011, 1, 20, 10, 20);
        so(town, "1 knows nothing", 0, 1, 21);
        so(town, "but what is always so", 0b1111, 1, 1, 13, 21);
    }

    private static void thinksAtOneAtLeast() {
        Due.says("THINKS: at one at least");
        TownKnows town = new TownKnows();
        town.begin(2, 2, 3);
        so(town, "one of four is enough", 0b1111, 0, 1, 11, 24);
        so(town, "none is not", 0, 0, 0, 10, 11, 24);
        town.see(0, 0);
        so(town, "one of two in the cell", 0b1010, 0, 1, 11, 24);
        so(town, "all of the cell", 0b1010, 0, 24);
        so(town, "once fact 1 is not so, 0 does not think it possible", 0b1111, 1, 10, 1, 24, 10, 14);
    }

    /** 0 sees fact 0 and 1 sees fact 1: a chain of worlds 3, 1, 0, 2. */
    private static TownKnows chain(int real) {
        TownKnows town = new TownKnows();
        town.begin(2, 2, real);
        town.see(0, 0);
        town.see(1, 1);
        town.group(0, 0);
        town.group(1, 1);
        town.group(2, 3);
        return town;
    }

    private static void commonWithThatItself() {
        Due.says("COMMON: at all of the set that can be come to by CELLS of PERSONS of the GROUP (with that itself)");
        TownKnows town = chain(3);
        so(town, "in none: where it is so", 0b1010, 0, 35);
        so(town, "in one: where it knows it", 0b1010, 0, 36);
        so(town, "in one: what it does not know", 0, 1, 36);
        so(town, "in both: again and again", 0, 0, 1, 12, 37);
        so(town, "in both, what is always so", 0b1111, 0, 0, 10, 12, 37);
    }

    private static void commonWithinTheSet() {
        Due.says("COMMON: within the set, again and again");
        TownKnows town = chain(3);
        so(town, "once one of them is cried, that is common", 0b1111, 0, 1, 12, 0, 1, 12, 37, 14);
        so(town, "once they are the same, nothing leads from the one to the other", 0b1110,
            0, 1, 11, 0, 1, 12, 10, 12, 0, 37, 14);
        so(town, "but for that all worlds do", 0, 0, 37);
    }

    private static void eachOfNone() {
        Due.says("32 to 34: each of GROUP 0 to 2 KNOWS it; GROUPS (none at first)");
        TownKnows town = chain(3);
        so(town, "of none: always, even what is never so", 0b1111, 0, 0, 10, 11, 32);
        so(town, "of one", 0b1010, 0, 33);
        so(town, "of both", 0, 0, 34);
        so(town, "of both, that one is", 0b1000, 0, 1, 12, 34);
        TownKnows fresh = new TownKnows();
        for (int g = 0; g < 3; g++) {
            so(fresh, "at first", 0b1111, 0, 32 + g);
            so(fresh, "at first", 0b1010, 0, 35 + g);
            so(fresh, "at first", 0, 0, 38 + g);
        }
    }

    private static void togetherOfNone() {
        Due.says("TOGETHER: (of a GROUP of none: at all of the set)");
        TownKnows town = chain(3);
        so(town, "nowhere", 0, 0, 38);
        so(town, "everywhere", 0b1111, 0, 0, 10, 12, 38);
        so(town, "of the set alone: once 0 is cried", 0b1111, 0, 0, 38, 14);
        so(town, "once 0 is cried, not 1", 0b0101, 0, 1, 38, 14);
        so(town, "that is so at one at least, then at all", 0b1111, 0, 1, 11, 10, 38, 10);
    }

    private static void togetherOfOne() {
        Due.says("TOGETHER: at all of the set that are in the CELLS of all of the GROUP");
        TownKnows town = chain(3);
        so(town, "of one: as it knows", 0b1010, 0, 39);
        so(town, "of one: as it knows", 0, 1, 39);
        so(town, "of both: all", 0b1000, 0, 1, 11, 40);
        so(town, "of both: all", 0b0001, 0, 1, 12, 10, 40);
    }

    private static void groupOfSuchAsAreNotThere() {
        Due.says("PERSONS that are not there count for nothing");
        TownKnows town = chain(3);
        town.group(0, 12);
        town.group(1, 13);
        town.group(2, 15);
        so(town, "each of none", 0b1111, 0, 32);
        so(town, "common in none", 0b1010, 0, 35);
        so(town, "together of none", 0, 0, 38);
        so(town, "each of 0", 0b1010, 0, 33);
        so(town, "common in 0", 0b1010, 0, 36);
        so(town, "together of 0", 0b1010, 0, 39);
        so(town, "each of both", 0b1000, 0, 1, 12, 34);
        so(town, "common in both", 0, 0, 1, 12, 37);
        so(town, "together of both", 0b1000, 0, 1, 11, 40);
    }

    private static void onceNowhere() {
        Due.says("ONCE a is cried b: a is not so there");
        TownKnows town = chain(3);
        so(town, "a nowhere, b nowhere", 0b1111, 0, 0, 10, 11, 0, 0, 10, 11, 14);
        so(town, "a nowhere, b of all kinds", 0b1111, 0, 0, 10, 11, 0, 20, 37, 40, 14);
        so(town, "where a is not so, alone", 0b0101, 0, 0, 10, 14);
    }

    private static void onceEverywhere() {
        Due.says("ONCE a is cried b: or b is so there in the set of those of the set at which a is so");
        TownKnows town = chain(3);
        so(town, "a everywhere: as b", 0b1010, 0, 0, 10, 12, 0, 20, 14);
        so(town, "a everywhere: as b", 0, 0, 0, 10, 12, 1, 20, 14);
        so(town, "a at one: all is known there", 0b1111, 0, 1, 11, 0, 1, 11, 37, 14);
        so(town, "a at two: 0 knows it still not", 0b0101, 0, 1, 20, 14);
        so(town, "1 knows fact 0 then", 0b1111, 0, 0, 21, 14);
    }

    private static void onceWithinOnce() {
        Due.says("ONCE: in the set of those of the set at which a is so");
        TownKnows town = chain(3);
        so(town, "once one is, once not 0: 0 knows 1", 0b1111, 0, 1, 12, 0, 10, 1, 20, 14, 14);
        so(town, "the inner one's a is asked in the outer set", 0b1111, 0, 1, 12, 0, 1, 12, 37, 0, 1, 12, 37, 14, 14);
        so(town, "the set ends with it", 0b1111, 0, 0, 21, 14, 0, 21, 10, 11);
    }

    private static void believesWithoutClaims() {
        Due.says("BELIEVES: as KNOWS");
        TownKnows town = chain(3);
        int[][] rows = {{0}, {1}, {0, 1, 12}, {0, 1, 11}, {0, 10}, {0, 0, 13}};
        for (int[] row : rows) {
            for (int p = 0; p < 2; p++) {
                Due.write(town, 0, row);
                Due.write(town, 1, row);
                town.sign(0, 20 + p);
                town.sign(1, 28 + p);
                Due.is("believes as knows", town.like(0, 1), 1);
            }
        }
    }

    private static void believesWhenAllClash() {
        Due.says("BELIEVES: if the CLAIM'S sentence is so at some of those that remain, just these remain");
        TownKnows town = chain(3);
        Due.write(town, 0, 0, 0, 10, 11);
        for (int i = 0; i < 5; i++) {
            Due.is("lie of what is never so", town.lie(0, 0), i);
        }
        so(town, "as knows", 0b1010, 0, 28);
        so(town, "as knows", 0b1100, 1, 29);
        so(town, "what is never so", 0, 0, 0, 10, 11, 28);
    }

    private static void believesTheLatestFirst() {
        Due.says("BELIEVES: when CLAIMS are gone through, the latest first");
        TownKnows town = new TownKnows();
        town.begin(2, 2, 0);
        Due.write(town, 0, 0);
        Due.write(town, 1, 0, 10, 1, 11);
        Due.write(town, 2, 0, 1, 12);
        town.lie(0, 0);
        so(town, "fact 0", 0b1111, 0, 29);
        town.lie(0, 2);
        so(town, "one of them, and then fact 0", 0b1111, 0, 29);
        town.lie(0, 1);
        so(town, "not 0, and 1", 0b1111, 0, 10, 1, 11, 29);
        town.lie(0, 0);
        so(town, "fact 0", 0b1111, 0, 29);
        so(town, "not whether 1: the one with 1 clashed", 0, 1, 29);
        so(town, "nor not 1", 0, 1, 10, 29);
    }

    private static void believesWithinTheSet() {
        Due.says("BELIEVES: of the WORLDS that remain of the set in the CELL; is so (in the set)");
        TownKnows town = new TownKnows();
        town.begin(2, 2, 0);
        Due.write(town, 0, 0);
        town.lie(1, 0);
        so(town, "once not 0 is cried it is not believed", 0b1010, 0, 10, 0, 28, 14);
        so(town, "but that not 0", 0b1111, 0, 10, 0, 10, 28, 14);
        Due.write(town, 0, 1, 20, 10);
        Due.is("0 knows that it does not know 1", town.lie(0, 0), Due.UNTRUE);
        Due.write(town, 0, 1, 20);
        Due.is("lie: that 0 knows 1", town.lie(0, 0), 1);
        so(town, "so nowhere: 0 is believed as ahead of it", 0b1111, 0, 28);
        so(town, "once 1 is cried it is so at all", 0b1111, 1, 1, 20, 0, 11, 28, 14);
    }

    /** 0 knows all facts and told 1 each behind a hand, so it tells 64 worlds apart; 2 and 3 none. */
    private static TownKnows crowd() {
        TownKnows town = new TownKnows();
        town.begin(4, 3, 7);
        town.go(2, 1);
        town.go(3, 2);
        for (int f = 0; f < 3; f++) {
            town.see(0, f);
            Due.write(town, f, f);
        }
        for (int f = 0; f < 3; f++) {
            Due.is("tell", town.tell(0, 1, f), 16 << f);
        }
        return town;
    }

    private static void many(TownKnows town, String what, int due, int... signs) {
        town.blank(5);
        Rich.row(town, 5, signs);
        Due.is(what, town.many(5), due);
    }

    private static void sixtyFourWorlds() {
        Due.says("Terms 1: WORLDS (at most 64); Terms 2: so AT a WORLD");
        TownKnows town = crowd();
        Due.is("the real one", town.all(3), 63);
        for (int w = 0; w < 64; w++) {
            Due.is("0 tells all apart", town.world(w, 0), w);
            Due.is("3 none", town.world(w, 3), 0);
        }
        many(town, "a fact", 32, 2);
        many(town, "not a fact", 32, 2, 10);
        many(town, "always", 64, 0, 0, 13);
        many(town, "never", 0, 0, 0, 13, 10);
        for (int p = 0; p < 4; p++) {
            many(town, p + " knows what is always so", 64, 0, 0, 13, 20 + p);
            many(town, p + " knows what is never so", 0, 0, 0, 13, 10, 20 + p);
            many(town, p + " thinks possible what is never so", 0, 0, 0, 13, 10, 24 + p);
            many(town, p + " believes what is never so", 0, 0, 0, 13, 10, 28 + p);
            many(town, p + " believes what is always so", 64, 0, 0, 13, 28 + p);
        }
        many(town, "0 knows a fact where it is so", 32, 0, 20);
        many(town, "1 where it was told that, too", 16, 0, 21);
        many(town, "3 nowhere", 0, 0, 23);
        town.group(0, 1);
        town.group(1, 3);
        town.group(2, 15);
        many(town, "each of 0 and 1", 16, 0, 33);
        many(town, "common in 0", 32, 0, 35);
        many(town, "common in all", 0, 0, 37);
        many(town, "0 together, never", 0, 0, 0, 13, 10, 38);
        many(town, "0 and 1 together", 32, 0, 39);
        many(town, "once it is cried it is common", 64, 0, 0, 37, 14);
        Due.is("so at all", town.fails(5), Due.NONE);
        many(town, "1 does not know all, but at the last", 63, 0, 21, 1, 21, 2, 21, 11, 11, 10);
        Due.is("the last", town.fails(5), 63);
    }

    private static void sixtyFourWorldsAndClaims() {
        Due.says("Terms 1: WORLDS (at most 64); BELIEVES, CLASHED");
        TownKnows town = crowd();
        Due.is("lie", town.lie(3, 0), 0);
        Due.is("not clashed, before anyone is asked what it believes", town.clashed(0, 3), 0);
        Due.is("undo", town.undo(), 11);
        many(town, "3 believes nothing yet", 0, 0, 31);
        Due.is("lie", town.lie(3, 0), 0);
        many(town, "3 believes it", 64, 0, 31);
        many(town, "1 believes it but where it knows better", 48, 0, 29);
        Due.is("not clashed for 3", town.clashed(0, 3), 0);
        Due.is("nor for 0, which knows it", town.clashed(0, 0), 0);
        town.sign(0, 10);
        Due.is("the contrary", town.lie(3, 0), 1);
        many(town, "3 believes that now", 0, 0, 31);
        many(town, "1 believes it where it knows it alone", 16, 0, 29);
        Due.is("clashed for 3", town.clashed(0, 3), 1);
        Due.is("not the later one", town.clashed(1, 3), 0);
        Due.is("the later one for 1", town.clashed(1, 1), 1);
        Due.is("not the former one", town.clashed(0, 1), 0);
    }
}
