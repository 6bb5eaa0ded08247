/** A town in which every part holds something, so that a look at it shows whatever changes. */
final class Rich {
    private Rich() {
    }

    /**
     * Three persons, two facts, both so; sentences 0, 1, 2 are RIGHT, 3 is not, 4 has BELIEVES, 5 is empty.
     * 0 knows fact 0 and told 1 of it, 2 is in another street; 1 swore on fact 0, 2 on both.
     */
    static void lay(TownKnows town) {
        town.begin(3, 2, 3);
        row(town, 0, 0);
        row(town, 1, 1);
        row(town, 2, 0, 21);
        row(town, 3, 0, 1);
        row(town, 4, 1, 29);
        sheets(town);
        town.group(0, 3);
        town.group(1, 5);
        town.group(2, 8);
        town.swear(1, 0);
        town.swear(2, 1);
        town.swear(2, 0);
        town.see(0, 0);
        town.mark();
        town.go(2, 1);
        town.tell(0, 1, 0);
        town.lie(0, 1);
        town.lie(1, 1);
        town.pact(0, 0);
        town.pact(2, 2);
        town.mark();
    }

    static void row(TownKnows town, int s, int... signs) {
        for (int v : signs) {
            town.sign(s, v);
        }
    }

    /** 0 and 2 of 8 bits, 1 of 16, 3 MISSING. */
    private static void sheets(TownKnows town) {
        numbers(town, 0, 8, 0, 10, 20);
        numbers(town, 1, 16, 1, 24);
        numbers(town, 2, 8, 40, 35, 32, 11);
    }

    static void numbers(TownKnows town, int s, int bits, int... numbers) {
        town.sheet(s, bits, numbers.length);
        for (int i = 0; i < numbers.length; i++) {
            town.put(s, i, numbers[i]);
        }
    }
}
