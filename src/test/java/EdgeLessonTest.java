/** The boundaries of Terms 5 and 6 and of promises 25 to 29: lessons, marks. */
final class EdgeLessonTest {
    public static void main(String[] args) {
        lessonsChangeNothing();
        lessonsOfNone();
        lessonsOfOne();
        lessonsOfTwo();
        lessonsOfThree();
        lessonsWithoutATeller();
        lessonFindingsInOrder();
        lessonPlaces();
        lessonNumbers();
        lessonsTheShortest();
        lessonsTheFirst();
        lessonsOfWhatIsNotSo();
        lessonsByTheLeastOther();
        lessonsInItsStreet();
        lessonsBehindALesson();
        lessonsOfTheFirstNumber();
        lessonsToNobody();
        lessonsOfSixtyFourWorlds();
        lessonsAskNoOaths();
        lessonsDoNoCut();
        sixMarks();
        marksFull();
        thenFindingsInOrder();
        thenOfNoMark();
        sinceFindings();
        sinceTheFirst();
        sinceNone();
        marksKeepWhatTheyKeep();
        marksKeepNothingElse();
        marksStayAsTheyAre();
        Due.end("EdgeLessonTest");
    }

    /** 1 sees fact 0, 2 sees fact 1, 0 sees nothing; all facts are so, all in one street. */
    private static void lay(TownKnows town) {
        town.begin(3, 2, 3);
        town.see(1, 0);
        town.see(2, 1);
        Rich.row(town, 0, 0, 20);
        Rich.row(town, 1, 0, 20, 1, 20, 11);
        Rich.row(town, 2, 0, 20, 1, 20, 11, 0, 22, 11);
        Rich.row(town, 3, 0, 1);
        Rich.row(town, 4, 0, 1, 12);
    }

    private static void lessonsChangeNothing() {
        Due.says("Promises 25, 26: lessons are found, not given");
        Twin town = new Twin(EdgeLessonTest::lay);
        town.tells("lessons(0)", 1, t -> t.lessons(0));
        town.tells("lessons(1)", 2, t -> t.lessons(1));
        town.tells("lesson(1, 1)", 1, t -> t.lesson(1, 1));
        town.tells("lessons(4)", 0, t -> t.lessons(4));
    }

    private static void lessonsOfNone() {
        Due.says("THE LESSONS: the shortest row behind which it is so: of none, if it is so");
        Twin town = new Twin(EdgeLessonTest::lay);
        town.tells("lessons(4)", 0, t -> t.lessons(4));
        town.refuses("lesson(4, 0)", Due.NONE, t -> t.lesson(4, 0));
        town.refuses("lesson(4, 1)", Due.NONE, t -> t.lesson(4, 1));
        town.refuses("lesson(4, -1)", Due.BEYOND, t -> t.lesson(4, -1));
    }

    private static void lessonsOfOne() {
        Due.says("THE LESSONS: a row of one");
        Twin town = new Twin(EdgeLessonTest::lay);
        town.tells("lessons(0)", 1, t -> t.lessons(0));
        town.tells("lesson(0, 0)", 0, t -> t.lesson(0, 0));
        town.refuses("lesson(0, 1): it has not so many", Due.NONE, t -> t.lesson(0, 1));
        town.refuses("lesson(0, 2): it has not so many", Due.NONE, t -> t.lesson(0, 2));
    }

    private static void lessonsOfTwo() {
        Due.says("THE LESSONS: a row of two");
        Twin town = new Twin(EdgeLessonTest::lay);
        town.tells("lessons(1)", 2, t -> t.lessons(1));
        town.tells("lesson(1, 0)", 0, t -> t.lesson(1, 0));
        town.tells("lesson(1, 1)", 1, t -> t.lesson(1, 1));
        town.refuses("lesson(1, 2): it has not so many", Due.NONE, t -> t.lesson(1, 2));
        town.refuses("lesson(1, MAX)", Due.NONE, t -> t.lesson(1, Integer.MAX_VALUE));
    }

    private static void lessonsOfThree() {
        Due.says("Promise 25: NONE: there are none of at most 2");
        Twin town = new Twin(EdgeLessonTest::lay);
        town.refuses("lessons(2)", Due.NONE, t -> t.lessons(2));
        town.refuses("lesson(2, 0)", Due.NONE, t -> t.lesson(2, 0));
        town.refuses("lesson(2, 2)", Due.NONE, t -> t.lesson(2, 2));
        TownKnows taught = new TownKnows();
        lay(taught);
        Due.write(taught, 5, 0);
        Due.is("the first of three is given", taught.openly(1, 2, 5), 4);
        Due.is("two are left", taught.lessons(2), 2);
    }

    private static void lessonsWithoutATeller() {
        Due.says("LESSONS: by the least other PERSON in its STREET that KNOWS whether");
        TownKnows town = new TownKnows();
        town.begin(1, 1, 1);
        Due.write(town, 0, 0, 20);
        Due.is("nobody else is there", town.lessons(0), Due.NONE);
        town.see(0, 0);
        Due.is("it is so now", town.lessons(0), 0);
        town.begin(2, 1, 1);
        Due.is("nobody knows", town.lessons(0), Due.NONE);
        town.see(1, 0);
        Due.is("1 knows", town.lessons(0), 1);
        town.go(1, 3);
        Due.is("but elsewhere", town.lessons(0), Due.NONE);
        town.begin(2, 1, 1);
        town.see(0, 0);
        Due.write(town, 1, 0, 0, 10, 11);
        Due.is("what is never so", town.lessons(1), Due.NONE);
        Due.write(town, 1, 0, 10);
        Due.is("a fact that is not so", town.lessons(1), Due.NONE);
    }

    private static void lessonFindingsInOrder() {
        Due.says("Promise 26: BEYOND: no such SENTENCE, or i is below 0. KIND. NONE");
        Twin town = new Twin(EdgeLessonTest::lay);
        for (int i : new int[] {-1, -2, Integer.MIN_VALUE}) {
            town.refuses("lesson(0, " + i + ")", Due.BEYOND, t -> t.lesson(0, i));
            town.refuses("beyond ahead of kind", Due.BEYOND, t -> t.lesson(3, i));
            town.refuses("beyond ahead of none", Due.BEYOND, t -> t.lesson(2, i));
        }
        town.refuses("no sentence", Due.BEYOND, t -> t.lesson(6, 0));
        town.refuses("kind ahead of none", Due.KIND, t -> t.lesson(3, 5));
        town.refuses("kind of an empty one", Due.KIND, t -> t.lesson(5, 0));
        town.refuses("kind", Due.KIND, t -> t.lessons(3));
        town.refuses("none", Due.NONE, t -> t.lesson(0, 1));
    }

    private static void lessonPlaces() {
        Due.says("Promise 26: or it has not so many");
        TownKnows town = new TownKnows();
        lay(town);
        int[] many = {1, 2, 0, 0, 0};
        for (int s : new int[] {0, 1, 2, 4}) {
            for (int i = 0; i < 5; i++) {
                Due.is("lesson(" + s + ", " + i + ") is there", town.lesson(s, i) == Due.NONE ? 0 : 1, i < many[s] ? 1 : 0);
            }
        }
    }

    private static void lessonNumbers() {
        Due.says("Promise 26: 4 times the PERSON, and the FACT");
        for (int n = 2; n <= 4; n++) {
            for (int m = 1; m <= 4; m++) {
                for (int p = 0; p < n; p++) {
                    TownKnows town = new TownKnows();
                    town.begin(n, m, (1 << m) - 1);
                    int teller = (p + 1) % n;
                    for (int f = 0; f < m; f++) {
                        town.see(teller, f);
                    }
                    Due.write(town, 0, m - 1, 20 + p);
                    Due.is("lessons", town.lessons(0), 1);
                    Due.is("the last fact, to " + p, town.lesson(0, 0), 4 * p + m - 1);
                }
            }
        }
    }

    private static void lessonsTheShortest() {
        Due.says("THE LESSONS: the shortest row");
        TownKnows town = new TownKnows();
        town.begin(4, 4, 15);
        for (int f = 0; f < 4; f++) {
            town.see(0, f);
        }
        Due.write(town, 0, 3, 23, 0, 21, 1, 21, 11, 12);
        Due.is("one late lesson, or two early ones", town.lessons(0), 1);
        Due.is("the late one", town.lesson(0, 0), 15);
        Due.write(town, 0, 3, 23, 2, 23, 11);
        Due.is("two", town.lessons(0), 2);
        Due.is("3 of 2", town.lesson(0, 0), 14);
        Due.is("3 of 3", town.lesson(0, 1), 15);
    }

    private static void lessonsTheFirst() {
        Due.says("of several the first, by 4 times the PERSON and the FACT");
        TownKnows town = new TownKnows();
        town.begin(3, 2, 3);
        town.see(0, 0);
        town.see(0, 1);
        Due.write(town, 0, 1, 21, 0, 22, 12);
        Due.is("1 of 1, or 2 of 0", town.lesson(0, 0), 5);
        Due.write(town, 0, 0, 22, 1, 21, 12);
        Due.is("as they are named is no matter", town.lesson(0, 0), 5);
        Due.write(town, 0, 1, 22, 0, 22, 11, 0, 21, 1, 21, 11, 12);
        Due.is("two", town.lessons(0), 2);
        Due.is("1 of 0", town.lesson(0, 0), 4);
        Due.is("1 of 1", town.lesson(0, 1), 5);
        Due.write(town, 0, 1, 22, 0, 21, 11);
        Due.is("two", town.lessons(0), 2);
        Due.is("the lesser first", town.lesson(0, 0), 4);
        Due.is("then the greater", town.lesson(0, 1), 9);
        Due.write(town, 0, 0, 21, 1, 22, 11, 1, 21, 0, 22, 11, 12);
        Due.is("of the same first one the lesser second", town.lesson(0, 0), 4);
        Due.is("4 goes with 9 alone", town.lesson(0, 1), 9);
    }

    private static void lessonsOfWhatIsNotSo() {
        Due.says("LESSONS: a PERSON is told OPENLY whether a FACT is so");
        TownKnows town = new TownKnows();
        town.begin(2, 2, 0);
        town.see(1, 1);
        Due.write(town, 0, 1, 10, 20);
        Due.is("0 is told that it is not", town.lessons(0), 1);
        Due.is("0 of 1", town.lesson(0, 0), 1);
        Due.write(town, 0, 1, 20);
        Due.is("0 can't know that it is", town.lessons(0), Due.NONE);
    }

    /** 0 knows it and told 1 behind a hand; 2 is back. If 1 told 2, 2 would know that 1 knows. */
    private static void whisper(TownKnows town) {
        town.begin(3, 1, 1);
        town.see(0, 0);
        town.go(2, 1);
        Due.write(town, 0, 0);
        Due.is("tell", town.tell(0, 1, 0), 4);
        Due.write(town, 1, 0, 21, 22);
    }

    private static void lessonsByTheLeastOther() {
        Due.says("LESSONS: by the least other PERSON in its STREET that KNOWS whether");
        TownKnows town = new TownKnows();
        whisper(town);
        town.go(2, 0);
        Due.is("0 is the least that tells 2, so 1 must tell 0, too", town.lessons(1), 2);
        Due.is("0 of it", town.lesson(1, 0), 0);
        Due.is("2 of it", town.lesson(1, 1), 8);
        Due.write(town, 2, 0, 20, 21);
        Due.is("1 knows that 0 knows", town.lessons(2), 0);
        Due.write(town, 2, 0, 22);
        Due.is("2 is told", town.lesson(2, 0), 8);
    }

    private static void lessonsInItsStreet() {
        Due.says("LESSONS: other PERSON in its STREET");
        TownKnows town = new TownKnows();
        whisper(town);
        town.go(2, 2);
        town.go(1, 2);
        Due.is("1 is the least in that street", town.lessons(1), 1);
        Due.is("2 of it", town.lesson(1, 0), 8);
        town.go(1, 1);
        Due.is("nobody is in that street", town.lessons(1), Due.NONE);
        town.go(0, 2);
        Due.is("0 is, and does not tell whether 1 knows", town.lessons(1), Due.NONE);
        town.go(1, 2);
        Due.is("both are", town.lessons(1), 2);
    }

    private static void lessonsBehindALesson() {
        Due.says("LESSONS: rows: the next is given behind the one ahead of it");
        TownKnows town = new TownKnows();
        town.begin(3, 1, 1);
        town.see(2, 0);
        town.go(2, 1);
        town.go(1, 1);
        Due.write(town, 0, 0, 20);
        Due.is("0 is alone", town.lessons(0), Due.NONE);
        town.go(1, 0);
        Due.is("1 does not know", town.lessons(0), Due.NONE);
        town.go(2, 0);
        Due.is("2 tells 0", town.lessons(0), 1);
        // where nobody but 2 knows whether, 1 and 0 are taught one behind the other
        Due.write(town, 1, 0, 20, 0, 21, 11);
        Due.is("two", town.lessons(1), 2);
        Due.is("0 of it", town.lesson(1, 0), 0);
        Due.is("1 of it, by 0, which knows now", town.lesson(1, 1), 4);
    }

    /** 1 knows that not both are so; once it is told of fact 1 it knows whether fact 0, and tells that 0. */
    private static void lessonsOfTheFirstNumber() {
        Due.says("of several the first, by 4 times the PERSON and the FACT");
        TownKnows town = new TownKnows();
        town.begin(3, 2, 2);
        town.see(0, 0);
        town.see(0, 1);
        Due.write(town, 0, 0, 1, 11);
        Due.is("0 tells 1 before 2", town.tell(0, 1, 0), 4);
        Due.write(town, 1, 1, 22, 21);
        Due.is("1 knows that 2 knows fact 1", town.lessons(1), 2);
        Due.is("1 of fact 1", town.lesson(1, 0), 5);
        Due.is("0 of fact 0, by 1: all see that 1 knows whether", town.lesson(1, 1), 0);
        town.begin(3, 2, 3);
        town.see(0, 0);
        town.see(0, 1);
        Due.write(town, 0, 0, 1, 13);
        Due.is("0 tells 1 whether, if 0, then 1", town.tell(0, 1, 0), 4);
        Due.write(town, 1, 0, 21, 22);
        Due.is("2 knows that 1 knows fact 0", town.lessons(1), 2);
        Due.is("1 of fact 0", town.lesson(1, 0), 4);
        Due.is("0 of fact 1, by 1", town.lesson(1, 1), 1);
    }

    /** 0 knows whether fact 1 where fact 0 is so alone: if all saw it tell that anyone, they would know fact 0. */
    private static void lessonsToNobody() {
        Due.says("LESSONS: a PERSON is told OPENLY whether a FACT is so");
        for (int n = 3; n <= 4; n++) {
            TownKnows town = new TownKnows();
            town.begin(n, 2, 3);
            town.see(0, 0);
            town.see(1, 0);
            town.see(1, 1);
            Due.write(town, 0, 0, 1, 11);
            Due.is("openly", town.openly(1, 0, 0), 4);
            town.go(1, 1);
            town.go(2, 2);
            Due.write(town, 1, 0, 22);
            if (n == 4) {
                Due.is("3 is told, and 2 sees that", town.lessons(1), 1);
                Due.is("3 of fact 1", town.lesson(1, 0), 13);
                town.go(3, 3);
            }
            Due.is("nobody is there to be told", town.lessons(1), Due.NONE);
        }
        for (int real = 0; real < 2; real++) {
            TownKnows town = new TownKnows();
            town.begin(1, 1, real);
            Due.write(town, 0, 0, 20, 0, 10, 20, 12);
            Due.is("0 is alone", town.lessons(0), Due.NONE);
            town.begin(2, 1, real);
            Due.is("1 does not know", town.lessons(0), Due.NONE);
            town.see(1, 0);
            Due.is("1 knows", town.lessons(0), 1);
        }
    }

    private static void lessonsOfSixtyFourWorlds() {
        Due.says("Terms 1: WORLDS (at most 64); LESSONS");
        TownKnows town = new TownKnows();
        town.begin(4, 3, 7);
        town.go(2, 1);
        town.go(3, 2);
        for (int f = 0; f < 3; f++) {
            town.see(0, f);
            Due.write(town, f, f);
        }
        for (int f = 0; f < 3; f++) {
            Due.is("tell", town.tell(0, 1, f), 16 << f);
        }
        Due.write(town, 3, 0, 22, 1, 22, 11);
        Due.is("2 is alone", town.lessons(3), Due.NONE);
        town.go(2, 0);
        Due.is("two, no world goes by them", town.lessons(3), 2);
        Due.is("2 of 0", town.lesson(3, 0), 8);
        Due.is("2 of 1", town.lesson(3, 1), 9);
        Due.write(town, 3, 2, 22);
        Due.is("one", town.lessons(3), 1);
        Due.is("2 of 2", town.lesson(3, 0), 10);
    }

    private static void lessonsAskNoOaths() {
        Due.says("LESSONS: (OATHS are not asked; ..)");
        TownKnows town = new TownKnows();
        lay(town);
        town.swear(1, 0);
        town.swear(2, 1);
        town.swear(0, 0);
        Due.is("lessons(0)", town.lessons(0), 1);
        Due.is("lessons(1)", town.lessons(1), 2);
    }

    private static void lessonsDoNoCut() {
        Due.says("LESSONS: (..; no CUT is done)");
        TownKnows town = new TownKnows();
        town.begin(2, 1, 1);
        town.see(0, 0);
        Due.write(town, 0, 0, 38);
        Due.is("at all worlds: the other one is not cut", town.lessons(0), Due.NONE);
        Due.write(town, 1, 0, 21);
        Due.is("1 would know it", town.lessons(1), 1);
        Due.write(town, 2, 0);
        Due.is("openly cuts it", town.openly(0, 1, 2), 1);
        Due.is("at all worlds", town.lessons(0), 0);
        // worlds at which who tells does not know whether go, cut or not
        town.begin(3, 1, 1);
        town.see(0, 0);
        town.go(2, 1);
        town.tell(0, 1, 2);
        Due.write(town, 0, 0, 21, 0, 10, 21, 12, 38);
        Due.is("that 1 knows whether, at all: where 1 does not go", town.lessons(0), 1);
        Due.is("0 of it, by 1", town.lesson(0, 0), 0);
    }

    private static void sixMarks() {
        Due.says("Terms 6: MARKS 0 to 5. Promise 27: its number. FULL: there are 6");
        TownKnows town = new TownKnows();
        Due.write(town, 0, 0);
        for (int mark = 0; mark < 6; mark++) {
            Due.is("marks ahead", town.all(6), mark);
            Due.is("no such mark yet", town.then(mark, 0), Due.BEYOND);
            Due.is("mark", town.mark(), mark);
            Due.is("it is there", town.then(mark, 0), 0);
        }
        Due.is("a seventh", town.mark(), Due.FULL);
        Due.is("six", town.all(6), 6);
        Due.is("undo", town.undo(), 7);
        Due.is("five", town.all(6), 5);
        Due.is("no mark 5", town.then(5, 0), Due.BEYOND);
        Due.is("a sixth anew", town.mark(), 5);
        town.begin(2, 2, 0);
        Due.is("a first anew", town.mark(), 0);
    }

    private static void marksFull() {
        Due.says("Promise 27: FULL: there are 6");
        Twin full = new Twin(t -> {
            lay(t);
            for (int i = 0; i < 6; i++) {
                t.mark();
            }
        });
        full.refuses("mark", Due.FULL, t -> t.mark());
    }

    private static void thenFindingsInOrder() {
        Due.says("Promise 28: BEYOND. KIND: it is not RIGHT");
        for (int marks = 1; marks <= 6; marks++) {
            int count = marks;
            Twin town = new Twin(t -> {
                lay(t);
                for (int i = 0; i < count; i++) {
                    t.mark();
                }
            });
            for (int mark : Due.outside(0, count - 1)) {
                town.refuses("then(" + mark + ", 0) of " + count, Due.BEYOND, t -> t.then(mark, 0));
                town.refuses("beyond ahead of kind", Due.BEYOND, t -> t.then(mark, 3));
            }
            town.refuses("no sentence", Due.BEYOND, t -> t.then(0, 6));
            town.refuses("kind", Due.KIND, t -> t.then(count - 1, 3));
            town.tells("not so then", 0, t -> t.then(count - 1, 0));
            town.tells("so then", 1, t -> t.then(count - 1, 4));
        }
    }

    private static void thenOfNoMark() {
        Due.says("Promise 28: BEYOND");
        Twin town = new Twin(EdgeLessonTest::lay);
        town.refuses("then(0, 0)", Due.BEYOND, t -> t.then(0, 0));
        town.refuses("then(0, 3)", Due.BEYOND, t -> t.then(0, 3));
    }

    private static void sinceFindings() {
        Due.says("Promise 29: BEYOND: no such SENTENCE. KIND. NONE");
        Twin town = new Twin(t -> {
            lay(t);
            t.mark();
        });
        town.refuses("no sentence", Due.BEYOND, t -> t.since(6));
        town.refuses("kind ahead of none", Due.KIND, t -> t.since(3));
        town.refuses("kind of an empty one", Due.KIND, t -> t.since(5));
        town.refuses("none", Due.NONE, t -> t.since(0));
        town.tells("since(4)", 0, t -> t.since(4));
        Twin bare = new Twin(EdgeLessonTest::lay);
        bare.refuses("kind without marks", Due.KIND, t -> t.since(3));
        bare.refuses("none without marks", Due.NONE, t -> t.since(4));
    }

    private static void sinceTheFirst() {
        Due.says("Promise 29: the first MARK at which it was so");
        for (int first = 0; first < 6; first++) {
            TownKnows town = new TownKnows();
            town.begin(2, 1, 1);
            Due.write(town, 0, 0, 20);
            Due.write(town, 1, 0, 20, 10);
            for (int mark = 0; mark < 6; mark++) {
                if (mark == first) {
                    town.see(0, 0);
                }
                town.mark();
            }
            Due.is("since", town.since(0), first);
            Due.is("what was so ahead of it", town.since(1), first == 0 ? Due.NONE : 0);
            for (int mark = 0; mark < 6; mark++) {
                Due.is("then(" + mark + ", 0)", town.then(mark, 0), mark < first ? 0 : 1);
            }
        }
    }

    private static void sinceNone() {
        Due.says("Promise 29: NONE");
        TownKnows town = new TownKnows();
        town.begin(2, 1, 1);
        Due.write(town, 0, 0, 20);
        for (int mark = 0; mark < 6; mark++) {
            town.mark();
        }
        town.see(0, 0);
        Due.is("so now", town.holds(0), 1);
        Due.is("at no mark", town.since(0), Due.NONE);
    }

    private static void marksKeepWhatTheyKeep() {
        Due.says("Terms 6: WORLDS, CELLS, CLAIMS, GROUPS as they are are kept");
        TownKnows town = new TownKnows();
        town.begin(2, 2, 3);
        Due.write(town, 0, 0, 40);
        Due.write(town, 1, 0, 20);
        Due.write(town, 2, 1, 29);
        Due.write(town, 3, 0, 32);
        Due.write(town, 4, 0);
        town.mark();
        town.group(0, 2);
        town.mark();
        town.see(0, 0);
        town.mark();
        Due.write(town, 5, 1);
        town.lie(0, 5);
        town.mark();
        Due.is("cry", town.cry(0, 4), 2);
        town.mark();
        int[][] due = {{0, 0, 0, 0, 1}, {0, 0, 1, 1, 1}, {0, 0, 0, 1, 1}, {1, 0, 0, 0, 1}};
        String[] what = {"worlds", "cells", "claims", "groups"};
        for (int s = 0; s < 4; s++) {
            for (int mark = 0; mark < 5; mark++) {
                Due.is(what[s] + " at mark " + mark, town.then(mark, s), due[s][mark]);
            }
        }
    }

    private static void marksKeepNothingElse() {
        Due.says("Promise 28: whether a SENTENCE was so at THE REAL WORLD of a MARK");
        TownKnows town = new TownKnows();
        town.begin(2, 2, 1);
        Due.write(town, 0, 0);
        town.mark();
        Due.is("fact 0", town.then(0, 0), 1);
        town.sign(0, 10);
        Due.is("the sentence as it is now", town.then(0, 0), 0);
        town.blank(0);
        Due.is("the sentence as it is now", town.then(0, 0), Due.KIND);
        Due.is("of one written later", town.sign(1, 1), 1);
        Due.is("of one written later", town.then(0, 1), 0);
    }

    private static void marksStayAsTheyAre() {
        Due.says("Terms 6: as they are are kept");
        TownKnows town = new TownKnows();
        Rich.lay(town);
        Due.write(town, 5, 0, 21, 22);
        Due.is("2 does not know that 1 knows", town.then(1, 5), 0);
        Due.is("cry", town.cry(0, 0) > 0 ? 1 : 0, 1);
        Due.is("now it does", town.holds(5), 1);
        Due.is("then it did not", town.then(1, 5), 0);
        Due.is("mark", town.mark(), 2);
        Due.is("since", town.since(5), 2);
        Due.is("undo mark", town.undo(), 11);
        Due.is("since", town.since(5), Due.NONE);
        Due.is("1 was told between the marks", town.then(0, 2) * 10 + town.then(1, 2), 1);
    }
}
