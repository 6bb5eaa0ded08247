import java.util.ArrayList;
import java.util.List;

/** The boundaries of Terms 3 and of promises 3 and 10 to 13: streets, see, tell, openly, cry. */
final class EdgeActTest {
    public static void main(String[] args) {
        streets();
        streetsAreWhereTheyWere();
        seeWhatIsKnown();
        seePartsNoOther();
        tellFindingsInOrder();
        tellFullInOrder();
        tellInEachStreet();
        tellByOneAlone();
        tellAsksNoOtherOath();
        oathsAreOfFactsAlone();
        tellWhatIsNotSo();
        tellJustUntrue();
        tellWhereItIsKnownAlone();
        tellOthersOfTheStreet();
        tellOthersElsewhere();
        tellByEachToEach();
        tellSixtyFour();
        tellBehindCut();
        openlyFindingsInOrder();
        openlyFromStreetToStreet();
        openlyJustUntrue();
        openlyWorldsGo();
        openlyAsItIsAheadOfThat();
        cryFindingsInOrder();
        cryJustUntrue();
        cryWhatAllKnow();
        cryWorldsGo();
        oathsBindTheSpeaker();
        Due.end("EdgeActTest");
    }

    /**
     * 0 knows fact 0 and swore on fact 1; 2 is in street 1. Sentences 0 to 2 are the facts, 3 and 4 are
     * not RIGHT (4 has fact 1), 5 is that fact 0 is not so. All three facts are so.
     */
    private static void lay(TownKnows town) {
        town.begin(3, 3, 7);
        Rich.row(town, 0, 0);
        Rich.row(town, 1, 1);
        Rich.row(town, 2, 2);
        Rich.row(town, 3, 0, 2);
        Rich.row(town, 4, 1, 1);
        Rich.row(town, 5, 0, 10);
        town.see(0, 0);
        town.swear(0, 1);
        town.go(2, 1);
    }

    /** 64 worlds; 1 telling 0 sentence 3 would make just 65 (as PlainTown counts, too). */
    private static void crowd(TownKnows town) {
        town.begin(4, 3, 4);
        Rich.row(town, 0, 0);
        Rich.row(town, 1, 2, 0, 11, 1, 12, 10);
        Rich.row(town, 2, 2);
        Rich.row(town, 3, 2, 10);
        Rich.row(town, 4, 0, 1, 12);
        town.see(0, 0);
        town.see(0, 1);
        town.see(0, 2);
        town.see(1, 0);
        town.see(3, 1);
        town.go(3, 2);
        Due.is("1 tells 2", town.tell(1, 2, 0), 16);
        Due.is("0 tells 1", town.tell(0, 1, 1), 32);
        Due.is("0 tells 1, just 64", town.tell(0, 1, 2), 64);
    }

    private static List<Integer> worlds(TownKnows town) {
        List<Integer> seen = new ArrayList<>();
        int count = town.all(2);
        int persons = town.all(0);
        seen.add(town.all(3));
        for (int w = 0; w < count; w++) {
            for (int p = -1; p < persons; p++) {
                seen.add(town.world(w, p));
            }
        }
        return seen;
    }

    /** A look takes some 320 calls, so each is at a town of its own: an object has 512. */
    private static List<Integer> crowdBehind(Twin.Steps more) {
        TownKnows town = new TownKnows();
        crowd(town);
        more.on(town);
        return worlds(town);
    }

    private static void cells(TownKnows town, String what, int person, int... least) {
        Due.is(what + ": worlds", town.all(2), least.length);
        for (int w = 0; w < least.length; w++) {
            Due.is(what + ": world(" + w + ", " + person + ")", town.world(w, person), least[w]);
        }
    }

    private static void streets() {
        Due.says("Terms 3: PERSONS are in STREETS 0 to 3. Promise 3: BEYOND");
        Twin rich = new Twin(Rich::lay);
        for (int street : Due.outside(0, 3)) {
            rich.refuses("go(0, " + street + ")", Due.BEYOND, t -> t.go(0, street));
            rich.refuses("go(3, " + street + ")", Due.BEYOND, t -> t.go(3, street));
        }
        for (int p = 0; p < 4; p++) {
            TownKnows town = new TownKnows();
            town.begin(4, 1, 0);
            int was = 0;
            for (int street : new int[] {3, 2, 1, 0, 0, 1, 1}) {
                Due.is("go(" + p + ", " + street + ")", town.go(p, street), was);
                was = street;
            }
        }
    }

    private static void streetsAreWhereTheyWere() {
        Due.says("Promise 3: a PERSON goes to a STREET: where it was; (0 at first)");
        TownKnows town = new TownKnows();
        town.begin(4, 1, 0);
        for (int p = 0; p < 4; p++) {
            Due.is("at first", town.go(p, 3 - p), 0);
        }
        for (int p = 0; p < 4; p++) {
            Due.is("each went alone", town.go(p, 0), 3 - p);
        }
        Due.is("no world changes", town.all(2), 2);
    }

    private static void seeWhatIsKnown() {
        Due.says("Promise 10: SEES: how many WORLDS there are");
        TownKnows town = new TownKnows();
        Rich.lay(town);
        List<Integer> ahead = worlds(town);
        Due.is("0 sees what it knows", town.see(0, 0), 8);
        Due.holds("nothing changes", ahead.equals(worlds(town)));
        Due.is("yet it is an act", town.undo(), 11);
        Due.holds("nothing changes", ahead.equals(worlds(town)));
        town.begin(1, 1, 1);
        Due.is("the last world", town.see(0, 0), 1);
        Due.is("the last world stays", town.see(0, 0), 1);
    }

    private static void seePartsNoOther() {
        Due.says("SEES: its CELLS are parted by whether it is so");
        TownKnows town = new TownKnows();
        town.begin(3, 2, 0);
        Due.is("see", town.see(1, 1), 4);
        cells(town, "0", 0, 0, 0, 0, 0);
        cells(town, "1", 1, 0, 0, 2, 2);
        cells(town, "2", 2, 0, 0, 0, 0);
        Due.is("it is not so, and 1 knows that", town.known(1, true), 2);
        Due.is("but not that it is so", town.known(1, false), 0);
        Due.write(town, 0, 1, 21, 1, 10, 21, 12, 20, 22);
        Due.is("all see that it looked", town.holds(0), 1);
    }

    private static void tellFindingsInOrder() {
        Due.says("Promise 11: BEYOND, SIZE, KIND, APART, SWORN, UNTRUE, in this order");
        Twin town = new Twin(EdgeActTest::lay);
        town.refuses("beyond ahead of size", Due.BEYOND, t -> t.tell(3, 3, 0));
        town.refuses("beyond ahead of size", Due.BEYOND, t -> t.tell(-1, -1, 0));
        town.refuses("no sentence ahead of size", Due.BEYOND, t -> t.tell(0, 0, 6));
        town.refuses("beyond ahead of kind", Due.BEYOND, t -> t.tell(0, 3, 3));
        town.refuses("beyond ahead of kind", Due.BEYOND, t -> t.tell(3, 0, 3));
        town.refuses("no sentence ahead of apart", Due.BEYOND, t -> t.tell(0, 2, 6));
        town.refuses("beyond ahead of sworn", Due.BEYOND, t -> t.tell(0, 3, 1));
        town.refuses("beyond ahead of untrue", Due.BEYOND, t -> t.tell(1, -1, 0));
        town.refuses("size ahead of kind", Due.SIZE, t -> t.tell(0, 0, 3));
        town.refuses("size ahead of sworn", Due.SIZE, t -> t.tell(0, 0, 1));
        town.refuses("size ahead of untrue", Due.SIZE, t -> t.tell(1, 1, 0));
        town.refuses("size of the last person", Due.SIZE, t -> t.tell(2, 2, 0));
        town.refuses("kind ahead of apart", Due.KIND, t -> t.tell(0, 2, 3));
        town.refuses("kind ahead of sworn", Due.KIND, t -> t.tell(0, 1, 4));
        town.refuses("apart ahead of sworn", Due.APART, t -> t.tell(0, 2, 1));
        town.refuses("apart ahead of untrue", Due.APART, t -> t.tell(1, 2, 0));
        town.refuses("apart, the other way round", Due.APART, t -> t.tell(2, 0, 0));
        town.refuses("apart alone", Due.APART, t -> t.tell(0, 2, 0));
        town.refuses("sworn ahead of untrue", Due.SWORN, t -> t.tell(0, 1, 1));
        town.refuses("untrue alone", Due.UNTRUE, t -> t.tell(0, 1, 2));
        town.refuses("untrue alone", Due.UNTRUE, t -> t.tell(1, 0, 0));
    }

    private static void tellFullInOrder() {
        Due.says("Promise 11: FULL is asked last");
        Twin full = new Twin(EdgeActTest::crowd);
        full.refuses("beyond ahead of full", Due.BEYOND, t -> t.tell(1, 4, 3));
        full.refuses("size ahead of full", Due.SIZE, t -> t.tell(1, 1, 3));
        full.refuses("kind", Due.KIND, t -> t.tell(1, 0, 5));
        full.refuses("apart ahead of full", Due.APART, t -> t.tell(1, 3, 3));
        full.refuses("untrue ahead of full", Due.UNTRUE, t -> t.tell(2, 1, 4));
        full.refuses("full", Due.FULL, t -> t.tell(1, 0, 3));
        Twin sworn = new Twin(t -> {
            crowd(t);
            t.swear(1, 2);
        });
        sworn.refuses("sworn ahead of full", Due.SWORN, t -> t.tell(1, 0, 3));
    }

    private static void tellInEachStreet() {
        Due.says("TELLS: (both in one STREET). APART: they are in other STREETS");
        for (int a = 0; a < 4; a++) {
            for (int b = 0; b < 4; b++) {
                TownKnows town = new TownKnows();
                town.begin(2, 1, 1);
                town.see(0, 0);
                town.go(0, a);
                town.go(1, b);
                Due.write(town, 0, 0);
                Due.is("tell from " + a + " to " + b, town.tell(0, 1, 0), a == b ? 1 : Due.APART);
                Due.is("1 knows it", town.known(1, false), a == b ? 1 : 0);
            }
        }
    }

    private static void tellByOneAlone() {
        Due.says("TELLS a another one b. SIZE: they are one");
        Twin alone = new Twin(t -> {
            t.begin(1, 1, 1);
            t.see(0, 0);
            t.sign(0, 0);
        });
        alone.refuses("tell itself", Due.SIZE, t -> t.tell(0, 0, 0));
        alone.refuses("openly", Due.SIZE, t -> t.openly(0, 0, 0));
        alone.refuses("nobody is there", Due.BEYOND, t -> t.tell(0, 1, 0));
        for (int p = 0; p < 4; p++) {
            TownKnows town = new TownKnows();
            town.begin(4, 1, 1);
            Due.write(town, 0, 0);
            Due.is("tell itself", town.tell(p, p, 0), Due.SIZE);
            Due.is("openly", town.openly(p, p, 0), Due.SIZE);
        }
    }

    private static void tellAsksNoOtherOath() {
        Due.says("Promise 11: SWORN; OATHS: a PERSON swears never to tell sentences with a FACT (SIGN) in them");
        TownKnows town = new TownKnows();
        lay(town);
        town.swear(1, 0);
        Due.is("neither who is told nor another fact", town.tell(0, 1, 0), 16);
        Due.is("who was told has sworn", town.tell(1, 0, 0), Due.SWORN);
        town.begin(2, 4, 15);
        for (int f = 0; f < 4; f++) {
            town.see(0, f);
        }
        town.swear(0, 3);
        int[][] rows = {{3}, {0, 3, 12}, {3, 0, 11}, {0, 1, 2, 3, 12, 12, 12}, {3, 21, 10}, {3, 3, 10, 12}};
        for (int[] row : rows) {
            Due.write(town, 0, row);
            Due.is("fact 3 is in it", town.tell(0, 1, 0), Due.SWORN);
        }
        Due.write(town, 0, 0, 23);
        Due.is("person 3 is no fact", town.tell(0, 1, 0), Due.KIND);
        Due.write(town, 0, 0, 1, 13);
        Due.is("sign 13 is no fact 3", town.tell(0, 1, 0), 12);
    }

    private static void oathsAreOfFactsAlone() {
        Due.says("OATHS: sentences with a FACT (SIGN) in them");
        for (int f = 0; f < 4; f++) {
            for (int v = 10; v <= 40; v++) {
                int other = (f + 1) % 4;
                TownKnows town = new TownKnows();
                town.begin(4, 4, 15);
                town.swear(0, f);
                boolean two = v >= 11 && v <= 14;
                Rich.row(town, 0, other);
                Rich.row(town, 0, two ? new int[] {other, v} : new int[] {v});
                Rich.row(town, 1, f);
                Rich.row(town, 1, two ? new int[] {other, v} : new int[] {v});
                String what = "sign " + v + ", sworn on " + f;
                Due.holds(what + ", not in it", town.tell(0, 1, 0) != Due.SWORN);
                Due.is(what + ", in it", town.tell(0, 1, 1), Due.SWORN);
            }
        }
    }

    private static void tellWhatIsNotSo() {
        Due.says("TELLS: whether a sentence is so; or KNOWS that it is not so");
        TownKnows town = new TownKnows();
        lay(town);
        Due.is("0 knows that it is not that not", town.tell(0, 1, 5), 16);
        Due.is("the real one", town.all(3), 15);
        Due.is("1 knows fact 0", town.known(1, false), 1);
        Due.is("2 does not", town.known(2, true), 0);
    }

    private static void tellJustUntrue() {
        Due.says("Promise 11: UNTRUE: a does not KNOW whether it is so");
        TownKnows town = new TownKnows();
        town.begin(2, 2, 3);
        town.see(0, 0);
        Due.write(town, 0, 0, 1, 11);
        Due.is("that both are: 0 knows one", town.tell(0, 1, 0), Due.UNTRUE);
        Due.write(town, 0, 0, 1, 12);
        Due.is("that one is: 0 knows that", town.tell(0, 1, 0), 2);
        town.begin(2, 2, 2);
        town.see(0, 0);
        Due.is("that one is: 0 knows that one is not", town.tell(0, 1, 0), Due.UNTRUE);
        Due.write(town, 0, 0, 1, 11);
        Due.is("that both are: they are not", town.tell(0, 1, 0), 2);
        Due.write(town, 1, 0, 0, 10, 12);
        Due.is("what is always so can be told by anyone", town.tell(1, 0, 1), 2);
        Due.write(town, 1, 0, 0, 10, 11);
        Due.is("and what is never so", town.tell(1, 0, 1), 2);
    }

    /** 0 knows whether (0 and 1) where fact 0 is not so: only from these worlds a told one comes. */
    private static void tellWhereItIsKnownAlone() {
        Due.says("TELLS: from each WORLD come: first itself; then, if a KNOWS there the sentence, or KNOWS that it is not so,"
            + " one where a told it");
        TownKnows town = new TownKnows();
        town.begin(3, 2, 0);
        town.see(0, 0);
        town.go(2, 3);
        Due.write(town, 0, 0, 1, 11);
        Due.is("tell", town.tell(0, 1, 0), 6);
        int[] facts = {0, 0, 1, 2, 2, 3};
        for (int w = 0; w < 6; w++) {
            Due.is("facts of " + w, town.world(w, -1), facts[w]);
        }
        Due.is("THE REAL one becomes the one where it was told", town.all(3), 1);
        cells(town, "0: as it told apart, and whether it was told", 0, 0, 1, 2, 0, 1, 2);
        cells(town, "1: whether it was told", 1, 0, 1, 0, 0, 1, 0);
        cells(town, "2", 2, 0, 0, 0, 0, 0, 0);
    }

    private static void tellOthersOfTheStreet() {
        Due.says("Others in that STREET tell apart what they told apart, and whether it was told");
        TownKnows town = new TownKnows();
        town.begin(4, 1, 1);
        town.see(0, 0);
        for (int p = 0; p < 3; p++) {
            town.go(p, 2);
        }
        Due.write(town, 0, 0);
        Due.is("tell", town.tell(0, 1, 0), 4);
        cells(town, "1: what it was", 1, 0, 1, 0, 3);
        cells(town, "2 is of the street: whether", 2, 0, 1, 0, 1);
        cells(town, "3 is not", 3, 0, 0, 0, 0);
    }

    private static void tellOthersElsewhere() {
        Due.says("All others just what they told apart");
        TownKnows town = new TownKnows();
        town.begin(4, 2, 3);
        town.see(0, 0);
        town.see(2, 1);
        town.go(2, 1);
        town.go(3, 1);
        Due.write(town, 0, 0);
        Due.is("tell", town.tell(0, 1, 0), 8);
        cells(town, "2 knows fact 1 as ahead of that", 2, 0, 0, 0, 0, 4, 4, 4, 4);
        cells(town, "3 knows nothing", 3, 0, 0, 0, 0, 0, 0, 0, 0);
        cells(town, "0", 0, 0, 1, 2, 3, 0, 1, 2, 3);
        cells(town, "1", 1, 0, 1, 0, 3, 0, 1, 0, 3);
    }

    /** Whoever tells, is told, is in that street or elsewhere, and whichever street it is. */
    private static void tellByEachToEach() {
        Due.says("TELLS: a and b ..; others in that STREET ..; all others ..");
        for (int place = 0; place < 64; place++) {
            int a = place / 16;
            int b = place / 4 % 4;
            int c = place % 4;
            int d = 6 - a - b - c;
            if (a != b && a != c && b != c) {
                for (int street = 0; street < 4; street++) {
                    TownKnows town = new TownKnows();
                    town.begin(4, 1, 1);
                    town.see(a, 0);
                    town.go(a, street);
                    town.go(b, street);
                    town.go(c, street);
                    town.go(d, (street + 1 + place % 3) % 4);
                    Due.write(town, 0, 0);
                    Due.is(a + " tells " + b, town.tell(a, b, 0), 4);
                    cells(town, "who tells", a, 0, 1, 2, 3);
                    cells(town, "who is told", b, 0, 1, 0, 3);
                    cells(town, "who is in the street", c, 0, 1, 0, 1);
                    cells(town, "who is elsewhere", d, 0, 0, 0, 0);
                }
            }
        }
    }

    private static void tellSixtyFour() {
        Due.says("Promise 11: FULL: there would be more than 64 WORLDS behind CUT");
        TownKnows town = new TownKnows();
        crowd(town);
        int findings = town.all(7);
        Due.is("there would be 65", town.tell(1, 0, 3), Due.FULL);
        Due.is("it is counted", town.all(7), findings + 1);
        Due.is("64 stay", town.all(2), 64);
        Due.is("the last world", town.world(63, 3) >= 0 ? 1 : 0, 1);
        Due.is("no world 64", town.world(64, 3), Due.BEYOND);
        Due.is("undo takes back the tell ahead of it", town.undo(), 11);
        Due.is("32", town.all(2), 32);
        Due.holds("all as it was", crowdBehind(t -> { }).equals(crowdBehind(t -> t.tell(1, 0, 3))));
    }

    private static void tellBehindCut() {
        Due.says("Promise 11: FULL: .. behind CUT");
        TownKnows town = new TownKnows();
        crowd(town);
        Due.is("told already: 128 ahead of CUT, 64 behind it", town.tell(0, 1, 2), 64);
        Due.is("that is an act", town.undo(), 11);
        Due.holds("all as it was", crowdBehind(t -> { }).equals(crowdBehind(t -> t.tell(0, 1, 2))));
        town.begin(4, 4, 15);
        town.go(3, 1);
        town.see(0, 0);
        town.see(0, 1);
        town.see(0, 2);
        Due.write(town, 0, 0);
        Due.write(town, 1, 1);
        Due.write(town, 2, 2);
        Due.is("tell", town.tell(0, 1, 0), 32);
        Due.is("tell", town.tell(0, 1, 1), 64);
        Due.is("128", town.tell(0, 1, 2), Due.FULL);
        town.go(3, 0);
        Due.is("when all hear that it is told, just 64 of them stay", town.tell(0, 1, 2), 64);
    }

    private static void openlyFindingsInOrder() {
        Due.says("Promise 12: BEYOND, SIZE, KIND, SWORN, UNTRUE, in this order");
        Twin town = new Twin(EdgeActTest::lay);
        town.refuses("beyond ahead of size", Due.BEYOND, t -> t.openly(3, 3, 0));
        town.refuses("beyond ahead of size", Due.BEYOND, t -> t.openly(-1, -1, 0));
        town.refuses("no sentence ahead of size", Due.BEYOND, t -> t.openly(0, 0, 6));
        town.refuses("beyond ahead of kind", Due.BEYOND, t -> t.openly(0, 3, 3));
        town.refuses("beyond ahead of kind", Due.BEYOND, t -> t.openly(3, 0, 3));
        town.refuses("beyond ahead of sworn", Due.BEYOND, t -> t.openly(0, 3, 1));
        town.refuses("beyond ahead of untrue", Due.BEYOND, t -> t.openly(1, 3, 0));
        town.refuses("size ahead of kind", Due.SIZE, t -> t.openly(0, 0, 3));
        town.refuses("size ahead of sworn", Due.SIZE, t -> t.openly(0, 0, 1));
        town.refuses("size ahead of untrue", Due.SIZE, t -> t.openly(1, 1, 0));
        town.refuses("kind ahead of sworn", Due.KIND, t -> t.openly(0, 1, 4));
        town.refuses("kind of an apart one", Due.KIND, t -> t.openly(0, 2, 3));
        town.refuses("sworn ahead of untrue", Due.SWORN, t -> t.openly(0, 1, 1));
        town.refuses("untrue alone", Due.UNTRUE, t -> t.openly(0, 1, 2));
        town.refuses("untrue alone", Due.UNTRUE, t -> t.openly(1, 0, 0));
        town.refuses("untrue of an apart one", Due.UNTRUE, t -> t.openly(2, 0, 0));
    }

    private static void openlyFromStreetToStreet() {
        Due.says("OPENLY a tells b: all see it");
        for (int a = 0; a < 4; a++) {
            for (int b = 0; b < 4; b++) {
                TownKnows town = new TownKnows();
                town.begin(3, 1, 1);
                town.see(0, 0);
                town.go(0, a);
                town.go(1, b);
                Due.write(town, 0, 0);
                Due.write(town, 1, 0, 21, 0, 10, 21, 12, 22);
                Due.is("openly from " + a + " to " + b, town.openly(0, 1, 0), 2);
                Due.is("1 knows it", town.known(1, false), 1);
                Due.is("2 does not", town.known(2, true), 0);
                Due.is("but knows that 1 knows whether", town.holds(1), 1);
            }
        }
    }

    private static void openlyJustUntrue() {
        Due.says("Promise 12: UNTRUE: a does not KNOW whether it is so");
        TownKnows town = new TownKnows();
        town.begin(2, 2, 3);
        town.see(0, 0);
        Due.write(town, 0, 0, 1, 11);
        Due.write(town, 1, 0, 1, 12);
        Due.is("that both are: 0 knows one", town.openly(0, 1, 0), Due.UNTRUE);
        Due.is("that one is: 0 knows that", town.openly(0, 1, 1), 2);
        town.begin(2, 2, 2);
        town.see(0, 0);
        Due.is("that one is: 0 knows that one is not", town.openly(0, 1, 1), Due.UNTRUE);
        Due.is("that both are: they are not", town.openly(0, 1, 0), 2);
    }

    private static void openlyWorldsGo() {
        Due.says("OPENLY: WORLDS at which a does not KNOW whether go; b's CELLS are parted by whether it is so");
        TownKnows town = new TownKnows();
        town.begin(3, 2, 1);
        town.see(0, 0);
        Due.write(town, 0, 0, 1, 12);
        Due.is("openly", town.openly(0, 1, 0), 2);
        Due.is("facts", town.world(0, -1), 1);
        Due.is("facts", town.world(1, -1), 3);
        Due.is("the real one", town.all(3), 0);
        cells(town, "1", 1, 0, 0);
        cells(town, "2", 2, 0, 0);
        town.begin(3, 2, 1);
        town.see(0, 0);
        town.see(0, 1);
        Due.is("0 knows whether at all", town.openly(0, 1, 0), 4);
        cells(town, "1's are parted", 1, 0, 1, 1, 1);
        cells(town, "2's are not", 2, 0, 0, 0, 0);
        cells(town, "0's stay", 0, 0, 1, 2, 3);
    }

    private static void openlyAsItIsAheadOfThat() {
        Due.says("OPENLY: b's CELLS are parted by whether it is so (as it is ahead of that)");
        TownKnows town = new TownKnows();
        town.begin(3, 1, 0);
        town.see(0, 0);
        Due.write(town, 0, 0, 0, 21, 10, 11);
        Due.is("whether it is so and 1 does not know it", town.openly(0, 1, 0), 2);
        cells(town, "1", 1, 0, 1);
        cells(town, "2", 2, 0, 0);
        Due.is("now that is so nowhere", town.many(0), 0);
    }

    private static void cryFindingsInOrder() {
        Due.says("Promise 13: BEYOND, KIND, SWORN, UNTRUE, in this order");
        Twin town = new Twin(EdgeActTest::lay);
        town.refuses("beyond ahead of kind", Due.BEYOND, t -> t.cry(3, 3));
        town.refuses("beyond ahead of untrue", Due.BEYOND, t -> t.cry(-1, 0));
        town.refuses("no sentence", Due.BEYOND, t -> t.cry(0, 6));
        town.refuses("kind ahead of sworn", Due.KIND, t -> t.cry(0, 4));
        town.refuses("kind alone", Due.KIND, t -> t.cry(1, 3));
        town.refuses("sworn ahead of untrue", Due.SWORN, t -> t.cry(0, 1));
        town.refuses("untrue alone", Due.UNTRUE, t -> t.cry(0, 2));
        town.refuses("untrue alone", Due.UNTRUE, t -> t.cry(1, 0));
        Twin knows = new Twin(t -> {
            lay(t);
            t.see(0, 1);
        });
        knows.refuses("sworn of what it knows", Due.SWORN, t -> t.cry(0, 1));
    }

    private static void cryJustUntrue() {
        Due.says("Promise 13: UNTRUE: it does not KNOW it");
        Twin town = new Twin(EdgeActTest::lay);
        town.refuses("it knows that it is not so", Due.UNTRUE, t -> t.cry(0, 5));
        TownKnows seen = new TownKnows();
        seen.begin(2, 2, 3);
        seen.see(0, 0);
        Due.write(seen, 0, 0, 1, 11);
        Due.is("both are so, but it knows one", seen.cry(0, 0), Due.UNTRUE);
        seen.see(0, 1);
        Due.is("now it knows both", seen.cry(0, 0), 1);
    }

    private static void cryWhatAllKnow() {
        Due.says("Promise 13: CRIES: how many WORLDS there are");
        TownKnows town = new TownKnows();
        Rich.lay(town);
        town.blank(5);
        Rich.row(town, 5, 0, 0, 10, 12);
        List<Integer> ahead = worlds(town);
        Due.is("what is always so, by who swore not", town.cry(0, 5), 8);
        Due.holds("nothing changes", ahead.equals(worlds(town)));
        Due.is("yet it is an act", town.undo(), 11);
    }

    private static void cryWorldsGo() {
        Due.says("CRIES: WORLDS at which it does not KNOW it go");
        TownKnows town = new TownKnows();
        town.begin(2, 2, 1);
        town.see(0, 0);
        Due.write(town, 0, 0, 1, 12);
        Due.is("that one is: where 0 knows that, not where it is so", town.cry(0, 0), 2);
        Due.is("facts", town.world(0, -1), 1);
        Due.is("facts", town.world(1, -1), 3);
        Due.is("the real one", town.all(3), 0);
    }

    private static void oathsBindTheSpeaker() {
        Due.says("OATHS: never to tell, tell OPENLY, or cry (or lie) sentences with a FACT in them");
        TownKnows town = new TownKnows();
        town.begin(2, 2, 3);
        Due.write(town, 0, 0);
        Due.write(town, 1, 1);
        town.see(0, 0);
        town.see(1, 0);
        town.swear(0, 0);
        Due.is("tell", town.tell(0, 1, 0), Due.SWORN);
        Due.is("openly", town.openly(0, 1, 0), Due.SWORN);
        Due.is("cry", town.cry(0, 0), Due.SWORN);
        Due.is("lie", town.lie(0, 0), Due.SWORN);
        Due.is("another fact", town.lie(0, 1), 0);
        Due.is("to see is free", town.see(0, 0), 2);
        Due.is("another person tells", town.tell(1, 0, 0), 2);
        Due.is("openly", town.openly(1, 0, 0), 2);
        Due.is("cries", town.cry(1, 0), 2);
        Due.is("lies of the other", town.lie(1, 1), 1);
    }
}
