/** Promises 25 to 29: lessons, lesson, mark, then, since. */
final class LessonTest {
    public static void main(String[] args) {
        none();
        one();
        two();
        streets();
        noCut();
        findings();
        mark();
        marksKeep();
        since();
        Due.end("LessonTest");
    }

    private static void none() {
        TownKnows town = new TownKnows();
        town.begin(2, 1, 1);
        Due.write(town, 0, 0);
        Due.is("it is so already", town.lessons(0), 0);
        Due.is("it has not so many", town.lesson(0, 0), Due.NONE);
        Due.write(town, 1, 0, 20);
        Due.is("nobody knows whether", town.lessons(1), Due.NONE);
        Due.is("nobody knows whether", town.lesson(1, 0), Due.NONE);
        Due.write(town, 2, 0, 10);
        Due.is("no lesson makes a fact", town.lessons(2), Due.NONE);
        town.begin(1, 1, 1);
        Due.is("nobody else is there", town.lessons(1), Due.NONE);
    }

    private static void one() {
        TownKnows town = new TownKnows();
        town.begin(3, 2, 1);
        town.see(1, 0);
        town.see(1, 1);
        town.see(2, 1);
        Due.write(town, 0, 1, 10, 20);
        Due.is("one", town.lessons(0), 1);
        Due.is("0 is told of 1", town.lesson(0, 0), 1);
        Due.is("no more", town.lesson(0, 1), Due.NONE);
        Due.write(town, 1, 0, 22);
        Due.is("one", town.lessons(1), 1);
        Due.is("2 is told of 0", town.lesson(1, 0), 8);
        Due.is("nothing changed", town.all(2), 4);
        Due.is("nothing changed", town.known(0, true), 0);
        Due.is("nothing to undo but the eleven acts above", town.undo(), 10);
        // oaths are not asked
        town.swear(1, 0);
        town.swear(1, 1);
        Due.write(town, 1, 0, 22);
        Due.is("one", town.lessons(1), 1);
        // of several the first: 0 or 2 knows it
        Due.write(town, 2, 0, 22, 0, 20, 12);
        Due.is("the first", town.lesson(2, 0), 0);
    }

    private static void two() {
        TownKnows town = new TownKnows();
        town.begin(3, 2, 3);
        town.see(1, 0);
        town.see(2, 1);
        Due.write(town, 0, 0, 1, 11, 20);
        Due.is("two", town.lessons(0), 2);
        Due.is("0 of 0", town.lesson(0, 0), 0);
        Due.is("0 of 1", town.lesson(0, 1), 1);
        Due.is("no third", town.lesson(0, 2), Due.NONE);
        Due.is("no third", town.lesson(0, Integer.MAX_VALUE), Due.NONE);
        Due.write(town, 1, 0, 1, 11, 20, 0, 22, 11);
        Due.is("three would be needed", town.lessons(1), Due.NONE);
        Due.is("three would be needed", town.lesson(1, 0), Due.NONE);
        // who was told can tell: 2 is taught by 0, which was taught by 1
        town.begin(3, 1, 1);
        town.see(1, 0);
        Due.write(town, 2, 0, 22, 20);
        Due.is("0 knows that 2 knows", town.lessons(2), 2);
        Due.is("0 of it", town.lesson(2, 0), 0);
        Due.is("2 of it", town.lesson(2, 1), 8);
    }

    private static void streets() {
        TownKnows town = new TownKnows();
        town.begin(3, 1, 1);
        town.see(2, 0);
        Due.write(town, 0, 0, 20);
        Due.is("one", town.lessons(0), 1);
        town.go(2, 1);
        Due.is("who knows is elsewhere", town.lessons(0), Due.NONE);
        town.go(0, 1);
        Due.is("they meet", town.lessons(0), 1);
        // 1 tells 0 what it knows, and by that all see that 1 knows whether
        town.begin(3, 1, 1);
        town.see(0, 0);
        Due.write(town, 1, 0, 10);
        town.go(2, 1);
        town.tell(0, 1, 1);
        Due.write(town, 2, 0, 21, 22);
        Due.is("2 does not know that 1 knows", town.holds(2), 0);
        town.go(2, 0);
        Due.is("1 must tell it, and 2 be told", town.lessons(2), 2);
        Due.is("0 first", town.lesson(2, 0), 0);
        Due.is("then 2", town.lesson(2, 1), 8);
    }

    /** Without CUT what can no longer be come to is still one of all. */
    private static void noCut() {
        TownKnows town = new TownKnows();
        town.begin(2, 1, 1);
        town.see(0, 0);
        Due.write(town, 0, 0, 40);
        Due.is("of none: at all worlds, of which one is not cut", town.lessons(0), Due.NONE);
        Due.write(town, 1, 0);
        Due.is("openly cuts it", town.openly(0, 1, 1), 1);
        Due.is("so here", town.lessons(0), 0);
    }

    private static void findings() {
        TownKnows town = new TownKnows();
        Due.is("no such sentence", town.lessons(6), Due.BEYOND);
        Due.is("no such sentence", town.lessons(-1), Due.BEYOND);
        Due.is("kind", town.lessons(0), Due.KIND);
        Due.is("no such sentence", town.lesson(6, 0), Due.BEYOND);
        Due.is("below 0 ahead of kind", town.lesson(0, -1), Due.BEYOND);
        Due.is("kind ahead of none", town.lesson(0, 9), Due.KIND);
        Due.write(town, 0, 0, 10);
        Due.is("below 0", town.lesson(0, -1), Due.BEYOND);
        Due.is("none", town.lesson(0, 0), Due.NONE);
    }

    private static void mark() {
        TownKnows town = new TownKnows();
        Due.write(town, 0, 0);
        Due.is("no mark", town.then(0, 0), Due.BEYOND);
        for (int i = 0; i < 6; i++) {
            Due.is("mark", town.mark(), i);
        }
        Due.is("full", town.mark(), Due.FULL);
        Due.is("then", town.then(5, 0), 0);
        Due.is("no such mark", town.then(6, 0), Due.BEYOND);
        Due.is("no such mark ahead of kind", town.then(-1, 1), Due.BEYOND);
        Due.is("no such sentence", town.then(0, 6), Due.BEYOND);
        Due.is("no such sentence", town.then(0, -1), Due.BEYOND);
        Due.is("kind", town.then(0, 1), Due.KIND);
        Due.is("undo", town.undo(), 7);
        Due.is("again", town.mark(), 5);
    }

    /** Worlds, cells, claims and groups as they were; the sentence as it is. */
    private static void marksKeep() {
        TownKnows town = new TownKnows();
        town.begin(2, 2, 2);
        Due.write(town, 0, 0);
        Due.write(town, 1, 0, 29);
        Due.write(town, 2, 1, 21);
        Due.write(town, 3, 1, 32);
        Due.write(town, 4, 1, 40);
        town.mark();
        town.lie(0, 0);
        town.mark();
        town.see(1, 1);
        town.mark();
        town.group(0, 3);
        town.mark();
        town.see(0, 1);
        town.mark();
        int[][] due = {{0, 1, 1, 1, 1}, {0, 0, 1, 1, 1}, {1, 1, 1, 0, 1}, {0, 0, 0, 0, 1}};
        for (int s = 1; s <= 4; s++) {
            for (int mark = 0; mark < 5; mark++) {
                Due.is("then(" + mark + ", " + s + ")", town.then(mark, s), due[s - 1][mark]);
            }
        }
        // 1 is so at all worlds that are left, so that it is known together by none at the last mark
        Due.write(town, 1, 0, 10, 29);
        Due.is("the sentence as it is now", town.then(1, 1), 0);
        Due.write(town, 1, 0, 21, 10);
        Due.is("the sentence as it is now", town.then(1, 1), 1);
        town.group(0, 0);
        Due.is("the group as it was", town.then(3, 3), 0);
        Due.is("the group as it is", town.holds(3), 1);
    }

    private static void since() {
        TownKnows town = new TownKnows();
        town.begin(2, 1, 1);
        Due.write(town, 0, 0, 21);
        Due.is("no marks", town.since(0), Due.NONE);
        town.mark();
        Due.is("not so then", town.since(0), Due.NONE);
        town.see(1, 0);
        town.mark();
        town.mark();
        Due.is("since", town.since(0), 1);
        Due.is("no such sentence", town.since(6), Due.BEYOND);
        Due.is("no such sentence", town.since(-1), Due.BEYOND);
        Due.is("kind", town.since(1), Due.KIND);
        Due.write(town, 1, 0);
        Due.is("since the first", town.since(1), 0);
    }
}
