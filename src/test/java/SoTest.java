/** Promises 19 to 24: holds, many, fails, like, world, known; and what each sign means. */
final class SoTest {
    public static void main(String[] args) {
        facts();
        joined();
        knows();
        once();
        groups();
        together();
        believes();
        believesWithinASet();
        findings();
        world();
        known();
        long14();
        Due.end("SoTest");
    }

    /** The worlds at which a sentence is so, seen through many, fails and holds alone. */
    private static void so(TownKnows town, String what, int worlds, int... signs) {
        Due.write(town, 5, signs);
        int count = Integer.bitCount(worlds);
        int every = (1 << town.all(2)) - 1;
        Due.is(what + ": many", town.many(5), count);
        Due.is(what + ": holds", town.holds(5), worlds >> town.all(3) & 1);
        int fails = every == worlds ? Due.NONE : Integer.numberOfTrailingZeros(~worlds);
        Due.is(what + ": fails", town.fails(5), fails);
    }

    private static void facts() {
        TownKnows town = new TownKnows();
        town.begin(2, 3, 5);
        so(town, "fact 0", 0b10101010, 0);
        so(town, "fact 1", 0b11001100, 1);
        so(town, "fact 2", 0b11110000, 2);
    }

    private static void joined() {
        TownKnows town = new TownKnows();
        town.begin(2, 2, 1);
        so(town, "not", 0b0101, 0, 10);
        so(town, "and", 0b1000, 0, 1, 11);
        so(town, "or", 0b1110, 0, 1, 12);
        so(town, "if 0 then 1", 0b1101, 0, 1, 13);
        so(town, "if 1 then 0", 0b1011, 1, 0, 13);
        so(town, "once 0 then 1", 0b1101, 0, 1, 14);
        so(town, "the latest two are taken", 0b0010, 0, 0, 1, 11, 10, 11);
        so(town, "a ahead of b", 0b1011, 0, 1, 10, 10, 0, 13, 12);
    }

    private static void knows() {
        TownKnows town = new TownKnows();
        town.begin(2, 2, 1);
        town.see(0, 0);
        so(town, "0 knows 0", 0b1010, 0, 20);
        so(town, "0 knows 1", 0, 1, 20);
        so(town, "1 knows 0", 0, 0, 21);
        so(town, "0 thinks 1 possible", 0b1111, 1, 24);
        so(town, "0 thinks 0 possible", 0b1010, 0, 24);
        so(town, "1 thinks it possible that 0 knows 0", 0b1111, 0, 20, 25);
        so(town, "0 knows that 0 or 1", 0b1010, 0, 1, 12, 20);
        so(town, "1 knows that 0 knows whether", 0b1111, 0, 20, 0, 10, 20, 12, 21);
    }

    /** ONCE looks at what b is in the fewer worlds; its a is looked at in the set around it. */
    private static void once() {
        TownKnows town = new TownKnows();
        town.begin(2, 2, 3);
        so(town, "once 0 is cried 1 knows it", 0b1111, 0, 0, 21, 14);
        so(town, "if 0 then 1 knows it", 0b0101, 0, 0, 21, 13);
        so(town, "once 0 or 1, then, once not 0, 1 knows 1", 0b1111, 0, 1, 12, 0, 10, 1, 21, 14, 14);
        so(town, "but not once 0 or 1 alone", 0b0001, 0, 1, 12, 1, 21, 14);
        so(town, "once 0 and that 0 knows it not, it knows it", 0b1111, 0, 0, 20, 10, 11, 0, 20, 14);
        so(town, "that is no longer so", 0b0101, 0, 0, 20, 10, 11, 0, 0, 20, 10, 11, 14);
        so(town, "once what is never so", 0b1111, 0, 0, 10, 11, 0, 0, 10, 11, 14);
    }

    private static void groups() {
        TownKnows town = new TownKnows();
        town.begin(3, 1, 1);
        town.see(0, 0);
        Due.write(town, 0, 0);
        town.go(2, 1);
        town.tell(0, 1, 0);
        // worlds: not so; told that not; so; told that so (the real one)
        town.group(0, 3);
        town.group(1, 7);
        town.group(2, 4);
        so(town, "0 and 1 each know it", 0b1000, 0, 32);
        so(town, "all three each know it", 0, 0, 33);
        so(town, "common in 0 and 1", 0b1000, 0, 35);
        so(town, "common in all", 0, 0, 36);
        so(town, "common in 2 alone", 0, 0, 37);
        so(town, "0 and 1 together", 0b1100, 0, 38);
        so(town, "all together", 0b1100, 0, 39);
        so(town, "2 together with none", 0, 0, 40);
        so(town, "what is so at all worlds is common", 0b1111, 0, 0, 10, 12, 36);
        // within the set of those at which it is so, all is common
        so(town, "once it is cried it is common in all", 0b1111, 0, 0, 36, 14);
        so(town, "each of 1 and 0 knows whether each does", 0b1010, 0, 32, 0, 10, 32, 12, 32);
    }

    /** Two that each know a half know the whole together. */
    private static void together() {
        TownKnows town = new TownKnows();
        town.begin(2, 2, 3);
        town.see(0, 0);
        town.see(1, 1);
        town.group(0, 3);
        town.group(1, 1);
        so(town, "together that both", 0b1000, 0, 1, 11, 38);
        so(town, "none alone", 0, 0, 1, 11, 32);
        so(town, "of a group of one: as it knows", 0b1010, 0, 39);
        so(town, "of none: at all of the set", 0, 0, 40);
        so(town, "of none, within a set", 0b1111, 0, 0, 40, 14);
        so(town, "of none, what is always so", 0b1111, 1, 1, 10, 12, 40);
    }

    private static void believes() {
        TownKnows town = new TownKnows();
        town.begin(2, 2, 0);
        so(town, "without claims as knows", 0, 0, 28);
        so(town, "what is always so", 0b1111, 0, 0, 10, 12, 28);
        Due.write(town, 0, 0);
        Due.write(town, 1, 1);
        Due.write(town, 2, 0, 1, 11, 10);
        Due.write(town, 3, 0, 10, 1, 10, 11);
        town.lie(0, 0);
        so(town, "0 believes its own lie, being in the town", 0b1111, 0, 28);
        so(town, "1 believes it", 0b1111, 0, 29);
        so(town, "it does not know it", 0, 0, 21);
        town.see(1, 0);
        so(town, "1 believes it where it is so", 0b1010, 0, 29);
        town.lie(1, 1);
        so(town, "1 believes the other, too", 0b1111, 1, 29);
        town.lie(0, 2);
        // the latest first: not both; then 1; then, of these, 0 is so nowhere
        so(town, "0 believes that not 0", 0b1111, 0, 10, 28);
        so(town, "0 believes that 1", 0b1111, 1, 28);
        so(town, "1, where 0 is so, believes that not 1", 0b1010, 1, 10, 29);
        town.lie(0, 3);
        so(town, "neither, says the latest", 0b1111, 0, 1, 12, 10, 28);
        so(town, "1, where 0 is so, does not take it", 0b0101, 0, 10, 29);
    }

    /** A claim that has KNOWS in it is asked in the set, and so may be so there alone. */
    private static void believesWithinASet() {
        TownKnows town = new TownKnows();
        town.begin(2, 2, 0);
        Due.write(town, 0, 0, 21);
        Due.is("lie", town.lie(0, 0), 0);
        so(town, "the claim is so nowhere", 0, 0, 28);
        so(town, "once 0 or 1 is cried it is so nowhere still", 0b0001, 0, 1, 12, 0, 28, 14);
        Due.write(town, 0, 0, 10, 0, 21, 12);
        Due.is("lie", town.lie(0, 0), 1);
        so(town, "that 1 knows it if it is so: believed that not", 0b1111, 0, 10, 28);
        so(town, "once it is cried, the claim leaves all", 0b1111, 0, 0, 28, 14);
        Due.write(town, 0, 0, 1, 12, 21, 0, 11);
        Due.is("lie", town.lie(0, 0), 2);
        so(town, "that 1 knows one of them, and 0: so nowhere, not believed", 0, 0, 28);
        so(town, "once one of them is cried, believed", 0b1111, 0, 1, 12, 0, 28, 14);
    }

    private static void findings() {
        TownKnows town = new TownKnows();
        Due.write(town, 0, 0);
        for (int s : new int[] {-1, 6, Integer.MAX_VALUE, Integer.MIN_VALUE}) {
            Due.is("holds", town.holds(s), Due.BEYOND);
            Due.is("many", town.many(s), Due.BEYOND);
            Due.is("fails", town.fails(s), Due.BEYOND);
            Due.is("like", town.like(s, 1), Due.BEYOND);
            Due.is("like", town.like(1, s), Due.BEYOND);
        }
        Due.is("holds", town.holds(1), Due.KIND);
        Due.is("many", town.many(1), Due.KIND);
        Due.is("fails", town.fails(1), Due.KIND);
        Due.is("like", town.like(0, 1), Due.KIND);
        Due.is("like", town.like(1, 0), Due.KIND);
        Due.is("like", town.like(0, 0), 1);
        Due.write(town, 1, 0, 10, 10);
        Due.is("like", town.like(0, 1), 1);
        Due.write(town, 1, 0, 10);
        Due.is("like", town.like(0, 1), 0);
        Due.write(town, 2, 1);
        Due.is("as many, elsewhere", town.like(0, 2), 0);
        Due.write(town, 3, 0, 0, 10, 12);
        Due.is("so at all", town.fails(3), Due.NONE);
        Due.is("counted", town.all(7), 26);
    }

    private static void world() {
        TownKnows town = new TownKnows();
        town.see(0, 1);
        int[] least = {0, 0, 2, 2};
        for (int w = 0; w < 4; w++) {
            Due.is("facts", town.world(w, -1), w);
            Due.is("least", town.world(w, 0), least[w]);
            Due.is("least", town.world(w, 1), 0);
        }
        Due.is("no such world", town.world(4, -1), Due.BEYOND);
        Due.is("no such world", town.world(-1, -1), Due.BEYOND);
        Due.is("no such person", town.world(0, 2), Due.BEYOND);
        Due.is("no such person", town.world(0, -2), Due.BEYOND);
    }

    private static void known() {
        TownKnows town = new TownKnows();
        town.begin(3, 4, 5);
        Due.is("nothing", town.known(0, true), 0);
        town.see(0, 0);
        town.see(0, 1);
        town.see(1, 3);
        town.see(1, 2);
        Due.is("to be so", town.known(0, false), 1);
        Due.is("whether", town.known(0, true), 3);
        Due.is("to be so", town.known(1, false), 4);
        Due.is("whether", town.known(1, true), 12);
        Due.is("nothing", town.known(2, true), 0);
        Due.is("no such person", town.known(3, true), Due.BEYOND);
        Due.is("no such person", town.known(-1, false), Due.BEYOND);
    }

    /** As deep as sentences can be: fourteen signs, and claims of fourteen below a belief. */
    private static void long14() {
        TownKnows town = new TownKnows();
        town.begin(2, 1, 1);
        so(town, "thirteen nots", 0b01, 0, 10, 10, 10, 10, 10, 10, 10, 10, 10, 10, 10, 10, 10);
        so(town, "seven facts, joined, and a not", 0b01, 0, 0, 0, 0, 0, 0, 0, 11, 12, 11, 12, 11, 12, 10);
        Due.write(town, 0, 0, 10, 10, 10, 10, 10, 10, 10, 10, 10, 10, 10, 10, 10);
        for (int i = 0; i < 5; i++) {
            town.lie(0, 0);
        }
        so(town, "all believe that not", 0b11, 0, 10, 28, 29, 28, 29, 28, 29, 28, 29, 28, 29, 28, 29);
        so(town, "nested ONCE", 0b11, 0, 0, 0, 0, 0, 0, 0, 14, 14, 14, 14, 14, 14, 20);
    }
}
