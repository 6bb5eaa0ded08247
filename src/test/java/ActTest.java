/** Promises 10 to 18: see, tell, openly, cry, lie, clashed, swear, pact, binding; and CUT. */
final class ActTest {
    public static void main(String[] args) {
        see();
        tellBehindAHand();
        tellNumbers();
        tellThatItIsNot();
        tellMerges();
        tellFindings();
        tellFull();
        openly();
        openlyFindings();
        cry();
        muddy();
        lie();
        clashed();
        swear();
        pact();
        binding();
        Due.end("ActTest");
    }

    private static void cells(TownKnows town, String what, int person, int... least) {
        Due.is(what + ": worlds", town.all(2), least.length);
        for (int w = 0; w < least.length; w++) {
            Due.is(what + ": world(" + w + ", " + person + ")", town.world(w, person), least[w]);
        }
    }

    private static void see() {
        TownKnows town = new TownKnows();
        Due.is("see", town.see(0, 1), 4);
        cells(town, "parted by fact 1", 0, 0, 0, 2, 2);
        cells(town, "not parted", 1, 0, 0, 0, 0);
        Due.is("see", town.see(0, 0), 4);
        cells(town, "parted by both", 0, 0, 1, 2, 3);
        Due.is("see", town.see(1, 0), 2);
        cells(town, "1 tells 0 and 2 not apart, and 1 and 3 are cut", 1, 0, 0);
        Due.is("the other one", town.world(1, -1), 2);
        Due.is("see again", town.see(1, 0), 2);
        Due.is("see", town.see(1, 1), 1);
        Due.is("no such person", town.see(2, 0), Due.BEYOND);
        Due.is("no such person", town.see(-1, 0), Due.BEYOND);
        Due.is("no such fact", town.see(0, 2), Due.BEYOND);
        Due.is("no such fact", town.see(0, -1), Due.BEYOND);
        town.begin(1, 2, 2);
        Due.is("one alone", town.see(0, 1), 2);
        Due.is("worlds are numbered anew", town.all(3), 0);
        Due.is("its facts", town.world(0, -1), 2);
        Due.is("its facts", town.world(1, -1), 3);
    }

    /** 0 knows and tells 1 in street 0; 2 is in it, 3 is in another one. */
    private static void tellBehindAHand() {
        TownKnows town = new TownKnows();
        town.begin(4, 1, 1);
        town.see(0, 0);
        town.go(3, 1);
        Due.write(town, 0, 0);
        Due.is("tell", town.tell(0, 1, 0), 4);
        cells(town, "0: all apart", 0, 0, 1, 2, 3);
        cells(town, "1: told or not, and what", 1, 0, 1, 0, 3);
        cells(town, "2: told or not", 2, 0, 1, 0, 1);
        cells(town, "3: nothing", 3, 0, 0, 0, 0);
        Due.is("the real one", town.all(3), 3);
        int[] facts = {0, 0, 1, 1};
        for (int w = 0; w < 4; w++) {
            Due.is("facts", town.world(w, -1), facts[w]);
        }
        Due.is("1 knows it", town.known(1, false), 1);
        Due.is("2 does not", town.known(2, true), 0);
        // 2 knows that 1 knows whether; 3 holds both possible
        Due.write(town, 1, 0, 21, 0, 10, 21, 12, 22);
        Due.is("2 knows that 1 knows whether", town.holds(1), 1);
        Due.write(town, 1, 0, 21, 0, 10, 21, 12, 23);
        Due.is("3 does not", town.holds(1), 0);
        Due.write(town, 1, 0, 21, 0, 10, 21, 12, 27);
        Due.is("3 thinks it possible", town.holds(1), 1);
    }

    /** From each world first itself comes, then the one where it was told, if there is one. */
    private static void tellNumbers() {
        TownKnows town = new TownKnows();
        town.begin(3, 2, 3);
        town.see(0, 0);
        town.go(2, 1);
        Due.write(town, 0, 0, 1, 11, 0, 10, 12);
        // 0 knows whether (0 and 1, or not 0) just where fact 0 is not so
        Due.is("0 does not know whether here", town.tell(0, 1, 0), Due.UNTRUE);
        town.begin(3, 2, 2);
        town.see(0, 0);
        town.go(2, 1);
        Due.is("tell", town.tell(0, 1, 0), 6);
        int[] facts = {0, 0, 1, 2, 2, 3};
        for (int w = 0; w < 6; w++) {
            Due.is("facts of " + w, town.world(w, -1), facts[w]);
        }
        Due.is("the real one", town.all(3), 4);
        cells(town, "0", 0, 0, 1, 2, 0, 1, 2);
        cells(town, "1", 1, 0, 1, 0, 0, 1, 0);
        cells(town, "2", 2, 0, 0, 0, 0, 0, 0);
    }

    private static void tellThatItIsNot() {
        TownKnows town = new TownKnows();
        town.begin(3, 1, 0);
        town.see(0, 0);
        town.go(2, 3);
        Due.write(town, 0, 0);
        Due.is("tell", town.tell(0, 1, 0), 4);
        Due.is("the real one", town.all(3), 1);
        Due.is("1 knows that it is not", town.known(1, false), 0);
        Due.is("1 knows whether", town.known(1, true), 1);
    }

    /** What all of a street know already makes no world that is not alike to another. */
    private static void tellMerges() {
        TownKnows town = new TownKnows();
        town.begin(3, 1, 1);
        town.see(0, 0);
        town.go(2, 1);
        Due.write(town, 0, 0);
        Due.is("tell", town.tell(0, 1, 0), 4);
        Due.is("tell back", town.tell(1, 0, 0), 4);
        Due.is("the least stays", town.all(3), 3);
        Due.is("tell again", town.tell(0, 1, 0), 4);
        // what is always so tells nothing to anyone
        Due.write(town, 1, 0, 0, 10, 12);
        Due.is("tell what is always so", town.tell(1, 0, 1), 4);
        // nobody is elsewhere now, but 2 still does not know whether 1 was told
        town.go(2, 0);
        Due.is("told before all in the street", town.tell(0, 2, 0), 4);
        Due.is("2 knows it", town.known(2, false), 1);
        Due.write(town, 2, 0, 21);
        Due.is("1 knows it", town.holds(2), 1);
        town.sign(2, 22);
        Due.is("2 does not know that", town.holds(2), 0);
    }

    private static void tellFindings() {
        TownKnows town = new TownKnows();
        town.begin(3, 2, 3);
        Due.write(town, 0, 0);
        Due.write(town, 1, 11);
        Due.write(town, 2, 1);
        town.go(1, 1);
        town.swear(0, 0);
        Due.is("no such person", town.tell(3, 0, 0), Due.BEYOND);
        Due.is("no such person", town.tell(-1, -1, 1), Due.BEYOND);
        Due.is("no such person", town.tell(0, 3, 0), Due.BEYOND);
        Due.is("no such sentence ahead of size", town.tell(0, 0, 6), Due.BEYOND);
        Due.is("no such sentence", town.tell(0, 1, -1), Due.BEYOND);
        Due.is("size ahead of kind", town.tell(0, 0, 1), Due.SIZE);
        Due.is("kind ahead of apart", town.tell(0, 1, 1), Due.KIND);
        Due.is("apart ahead of sworn", town.tell(0, 1, 0), Due.APART);
        Due.is("sworn ahead of untrue", town.tell(0, 2, 0), Due.SWORN);
        Due.is("untrue", town.tell(0, 2, 2), Due.UNTRUE);
        Due.is("untrue of one that did not swear", town.tell(2, 0, 0), Due.UNTRUE);
        Due.is("nothing changed", town.all(2), 4);
        Due.is("all are counted", town.all(7), 11);
    }

    private static void tellFull() {
        TownKnows town = new TownKnows();
        town.begin(4, 4, 15);
        for (int p = 0; p < 3; p++) {
            town.see(p, p);
        }
        town.see(0, 3);
        town.go(2, 1);
        town.go(3, 2);
        for (int s = 0; s < 4; s++) {
            Due.write(town, s, s);
        }
        Due.is("tell", town.tell(0, 1, 0), 32);
        Due.is("tell", town.tell(1, 0, 1), 64);
        Due.is("there would be 128", town.tell(0, 1, 3), Due.FULL);
        Due.is("nothing changed", town.all(2), 64);
        Due.is("the real one", town.all(3), 63);
        Due.is("what does not double is told", town.tell(0, 1, 0), 64);
        Due.is("undo", town.undo(), 11);
        Due.is("whether fact 0 was told makes no odds once it is cried", town.cry(0, 0), 16);
    }

    private static void openly() {
        TownKnows town = new TownKnows();
        town.begin(3, 2, 3);
        town.see(0, 0);
        Due.write(town, 0, 0);
        town.go(1, 1);
        Due.is("openly, from street to street", town.openly(0, 1, 0), 4);
        cells(town, "1 is told", 1, 0, 1, 0, 1);
        cells(town, "2 is not", 2, 0, 0, 0, 0);
        Due.write(town, 1, 0, 21, 0, 10, 21, 12, 22);
        Due.is("2 knows that 1 knows whether", town.holds(1), 1);
        // worlds at which it does not know whether go, and with them what 2 held possible
        town.begin(3, 2, 2);
        town.see(0, 0);
        Due.write(town, 2, 0, 1, 11);
        Due.is("openly", town.openly(0, 1, 2), 2);
        Due.is("fact 0 is not so at both", town.known(2, true), 1);
        Due.is("facts", town.world(0, -1), 0);
        Due.is("facts", town.world(1, -1), 2);
        Due.is("the real one", town.all(3), 1);
        // whether it is so ahead of that: that 1 does not know it
        town.begin(2, 1, 1);
        town.see(0, 0);
        Due.write(town, 3, 0, 0, 21, 10, 11);
        Due.is("it is so, and 1 does not know it", town.openly(0, 1, 3), 1);
        Due.is("now 1 knows it", town.known(1, false), 1);
        Due.is("and it is not so any more", town.holds(3), 0);
    }

    private static void openlyFindings() {
        TownKnows town = new TownKnows();
        Due.write(town, 0, 0);
        town.go(1, 1);
        town.swear(0, 0);
        Due.is("no such person", town.openly(2, 0, 0), Due.BEYOND);
        Due.is("no such person", town.openly(0, 2, 0), Due.BEYOND);
        Due.is("no such sentence", town.openly(0, 0, 6), Due.BEYOND);
        Due.is("size ahead of kind", town.openly(1, 1, 1), Due.SIZE);
        Due.is("kind", town.openly(0, 1, 1), Due.KIND);
        Due.is("sworn ahead of untrue", town.openly(0, 1, 0), Due.SWORN);
        Due.is("untrue", town.openly(1, 0, 0), Due.UNTRUE);
        town.see(1, 0);
        Due.is("no oath binds who did not swear it", town.openly(1, 0, 0), 2);
    }

    private static void cry() {
        TownKnows town = new TownKnows();
        town.begin(2, 2, 3);
        Due.write(town, 0, 0);
        Due.write(town, 1, 0, 10);
        town.swear(1, 0);
        Due.is("no such person", town.cry(2, 0), Due.BEYOND);
        Due.is("no such sentence", town.cry(0, 6), Due.BEYOND);
        Due.is("kind ahead of sworn", town.cry(1, 2), Due.KIND);
        Due.is("sworn ahead of untrue", town.cry(1, 0), Due.SWORN);
        Due.is("untrue", town.cry(0, 0), Due.UNTRUE);
        town.see(0, 0);
        Due.is("it knows that it is not so", town.cry(0, 1), Due.UNTRUE);
        Due.is("cry", town.cry(0, 0), 2);
        Due.is("all know it", town.known(1, false), 1);
        Due.is("the real one", town.all(3), 1);
    }

    /** Two muddy children: what is not known, cried, becomes what is. */
    private static void muddy() {
        TownKnows town = new TownKnows();
        town.begin(3, 2, 3);
        town.see(0, 1);
        town.see(1, 0);
        town.see(2, 0);
        town.see(2, 1);
        Due.write(town, 0, 0, 1, 12);
        Due.is("one at least is muddy", town.cry(2, 0), 3);
        Due.write(town, 1, 0, 20, 10);
        Due.write(town, 2, 1, 21);
        Due.write(town, 3, 0, 20, 10, 1, 21, 14);
        Due.is("0 does not know", town.holds(1), 1);
        Due.is("1 does not know", town.holds(2), 0);
        Due.is("once it is cried that 0 does not, 1 knows", town.many(3), 3);
        Due.is("0 cries it", town.cry(0, 1), 2);
        Due.is("now 1 knows", town.holds(2), 1);
    }

    private static void lie() {
        TownKnows town = new TownKnows();
        town.begin(2, 2, 1);
        Due.write(town, 0, 0);
        Due.write(town, 1, 0, 28);
        Due.write(town, 2, 1);
        Due.write(town, 3, 0, 30);
        town.see(0, 0);
        Due.is("no such person", town.lie(2, 0), Due.BEYOND);
        Due.is("no such sentence", town.lie(0, 6), Due.BEYOND);
        Due.is("kind", town.lie(0, 4), Due.KIND);
        Due.is("has BELIEVES", town.lie(0, 1), Due.KIND);
        Due.is("untrue: it knows it", town.lie(0, 0), Due.UNTRUE);
        town.swear(1, 0);
        Due.is("kind ahead of sworn", town.lie(1, 1), Due.KIND);
        Due.is("sworn", town.lie(1, 0), Due.SWORN);
        town.swear(0, 0);
        Due.is("sworn ahead of untrue", town.lie(0, 0), Due.SWORN);
        for (int claim = 0; claim < 5; claim++) {
            Due.is("lie", town.lie(0, 2), claim);
        }
        Due.is("full", town.lie(1, 2), Due.FULL);
        Due.is("five claims", town.all(4), 5);
        Due.is("worlds stay", town.all(2), 4);
        Due.is("cells stay", town.known(1, true), 0);
        // 1 believes the claim, of the signs as they were then
        Due.write(town, 5, 1, 29);
        Due.is("1 believes it", town.holds(5), 1);
        town.blank(2);
        Due.is("1 believes it still", town.holds(5), 1);
        town.see(1, 1);
        Due.is("until it sees", town.holds(5), 0);
        Due.write(town, 2, 1);
        Due.is("untrue ahead of full", town.begin(2, 2, 3) + town.see(0, 1), 8);
        for (int claim = 0; claim < 5; claim++) {
            town.lie(1, 2);
        }
        Due.is("untrue ahead of full", town.lie(0, 2), Due.UNTRUE);
    }

    private static void clashed() {
        TownKnows town = new TownKnows();
        town.begin(2, 2, 0);
        Due.write(town, 0, 0);
        Due.write(town, 1, 0, 10, 1, 11);
        Due.write(town, 2, 1);
        Due.is("no such claim", town.clashed(0, 0), Due.BEYOND);
        Due.is("lie that 0", town.lie(0, 0), 0);
        Due.is("no such claim", town.clashed(1, 0), Due.BEYOND);
        Due.is("no such claim", town.clashed(-1, 0), Due.BEYOND);
        Due.is("no such person", town.clashed(0, 2), Due.BEYOND);
        Due.is("no such person", town.clashed(0, -1), Due.BEYOND);
        Due.is("believed", town.clashed(0, 1), 0);
        Due.is("lie that not 0, and 1", town.lie(0, 1), 1);
        Due.is("the later one is believed", town.clashed(1, 1), 0);
        Due.is("the earlier one clashes with it", town.clashed(0, 1), 1);
        Due.is("lie that 1", town.lie(0, 2), 2);
        Due.is("that goes with it", town.clashed(1, 1), 0);
        town.see(1, 1);
        Due.is("1 sees that 1 is not so", town.clashed(2, 1), 1);
        Due.is("so the middle one is not", town.clashed(1, 1), 1);
        Due.is("and the first may be", town.clashed(0, 1), 0);
        Due.is("0 saw nothing", town.clashed(2, 0), 0);
        Due.is("0 holds the later ones", town.clashed(0, 0), 1);
    }

    private static void swear() {
        TownKnows town = new TownKnows();
        Due.is("swear", town.swear(0, 1), 1);
        Due.is("swear", town.swear(0, 0), 2);
        Due.is("swear", town.swear(1, 0), 1);
        Due.is("swore that one", town.swear(0, 1), Due.KIND);
        Due.is("no such person", town.swear(2, 0), Due.BEYOND);
        Due.is("no such person", town.swear(-1, 0), Due.BEYOND);
        Due.is("no such fact", town.swear(0, 2), Due.BEYOND);
        Due.is("no such fact", town.swear(0, -1), Due.BEYOND);
        // an oath is on each sentence with that sign in it, whatever it says
        town.begin(2, 3, 0);
        town.see(0, 2);
        town.swear(0, 1);
        Due.write(town, 0, 2, 1, 1, 10, 12, 11, 10);
        Due.is("sworn", town.cry(0, 0), Due.SWORN);
        Due.write(town, 0, 2, 10);
        Due.is("not sworn", town.cry(0, 0), 4);
    }

    private static void pact() {
        TownKnows town = new TownKnows();
        Due.write(town, 0, 0);
        Due.is("no such sentence", town.pact(6, 0), Due.BEYOND);
        Due.is("no such sentence", town.pact(-1, 0), Due.BEYOND);
        Due.is("no such group ahead of kind", town.pact(1, 3), Due.BEYOND);
        Due.is("no such group", town.pact(0, -1), Due.BEYOND);
        Due.is("kind", town.pact(1, 0), Due.KIND);
        for (int i = 0; i < 4; i++) {
            Due.is("pact", town.pact(0, i % 3), i);
        }
        Due.is("full", town.pact(0, 0), Due.FULL);
        Due.is("kind ahead of full", town.pact(1, 0), Due.KIND);
        Due.is("four", town.all(5), 4);
    }

    private static void binding() {
        TownKnows town = new TownKnows();
        town.begin(3, 1, 1);
        town.group(0, 3);
        town.group(1, 7);
        Due.write(town, 0, 0);
        town.see(0, 0);
        Due.is("none", town.binding(), 0);
        town.pact(0, 0);
        town.pact(0, 1);
        town.pact(0, 2);
        Due.is("of none: just that it is so", town.binding(), 4);
        Due.write(town, 0, 0, 10);
        town.pact(0, 0);
        Due.write(town, 1, 0);
        town.go(2, 1);
        town.tell(0, 1, 1);
        Due.is("common in 0 and 1, not in all", town.binding(), 5);
        town.group(2, 4);
        Due.is("the group as it is now", town.binding(), 1);
        town.cry(0, 1);
        Due.is("common in all; signs as they were then", town.binding(), 7);
    }
}
