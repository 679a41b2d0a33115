/** PEOPLE, GIVING, CALLS, SETTINGS and LETTERS IN CALLS: each sentence that names an edge has a test of its own. */
public final class RuleEdgesTest extends TestBase {
    private static final String PEOPLE = "PEOPLE, promises 7, 8, 12";
    private static final String GIVING = "GIVING, promises 14, 19";
    private static final String CALLS = "CALLS, promises 11, 15";
    private static final String SETTINGS = "SETTINGS, promise 17";
    private static final String LETTERS = "LETTERS IN CALLS, promises 8, 11, 14, 15, 19";

    public static void main(String[] args) {
        noResult();
        lastCall();
        people();
        brothers();
        namesEver();
        lettersOfNames();
        whatNamesHave();
        aliveNames();
        threeAlive();
        givingToOneself();
        givingToStrangers();
        givingAFourth();
        givingTakenLetters();
        givingA41st();
        givingReasonsInOrder();
        callOfOneWhoHasIt();
        callOfABrother();
        callOfNobody();
        use();
        sticking();
        mix();
        settings();
        codes();
        Check.end();
    }

    /** 40 names, none of them alive; 0 and 1 are brothers on bench 0, and strangers to 2 on bench 1. */
    private static NameBenches forty() {
        NameBenches x = fewerThanForty(40);
        Check.same("names", x.about(1), 40);
        return x;
    }

    private static NameBenches fewerThanForty(int names) {
        NameBenches x = of("Rp1000p1000p1011s11");
        for (int i = 0; i < names; i++) {
            x.give(0, 1, 1, A);
            x.years(1);
        }
        return x;
    }

    /** The first person is 10 years old on bench 0, the second has three names: A, B and C. */
    private static NameBenches three() {
        return of("Rp1000p1000p1011g0001A.g0001B.g0001C.");
    }

    // ---- the face

    private static void noResult() {
        Check.edge("The constants", "`NONE = -1`: There is no such result.", () -> Check.same("NONE", NameBenches.NONE, -1));
    }

    private static void lastCall() {
        String words = "An object is used for at most 512 calls after it has been made";
        Check.edge("The public face", words, () -> {
            NameBenches x = new NameBenches();
            calls(x, 510, 0, 1, A);
            Check.same("the 511th call", x.about(10), 510);
            Check.same("the 512th call", x.undo(), 13);
        });
        Check.edge("The public face", words, () -> {
            NameBenches x = new NameBenches();
            x.person(10, 0, 0);
            x.person(10, 0, 0);
            x.give(0, 1, 1, A);
            calls(x, 508, 0, 1, A);
            Check.same("the 512th call", x.nameOf(0, 4), 508);
        });
    }

    // ---- PEOPLE

    private static void people() {
        Check.edge(PEOPLE, "There are at most 12 people, numbered from 0 in the order in which they came", () -> {
            NameBenches x = new NameBenches();
            for (int p = 0; p < 12; p++) {
                Check.same("person", x.person(p, p % 6, p % 4), p);
            }
            for (int p = 0; p < 12; p++) {
                Check.same("age of " + p, x.personOf(p, 0), p);
                Check.same("family of " + p, x.personOf(p, 1), p % 6);
                Check.same("bench of " + p, x.personOf(p, 2), p % 4);
            }
            Check.fails("a 13th", STATE, () -> x.person(0, 0, 0));
        });
        Check.edge(PEOPLE, "There are at most 12 people, numbered from 0 in the order in which they came", () -> {
            NameBenches x = of("R" + "p1000".repeat(11) + "p1001g1011A.");
            Check.same("nobody was mixed up", x.mixed(), NONE);
            Check.same("no brother, by the names", x.meant(3, 1, A, 1), NONE);
            Check.same("the 12th has it", x.call(1, 1, A), 11);
            Check.same("the first is his brother", x.call(0, 1, A), 0);
            Check.same("the 12th is called so", of("R" + "p1000".repeat(11) + "p1001g0100A.c1A.").mixed(), 11);
        });
        Check.edge(PEOPLE, "Years are numbered from 0.", () -> {
            NameBenches x = of("Rp1000p1000g0001A.");
            Check.same("the first year", x.about(7), 0);
            Check.same("of the first name", x.nameOf(0, 5), 0);
        });
    }

    private static void brothers() {
        String words = "Two are brothers if they are of the same family.";
        Check.edge(PEOPLE, words, () -> Check.same("nobody is his own brother", of("Rp1000").personOf(0, 4), 0));
        Check.edge(PEOPLE, words, () -> Check.same("all 12", of("R" + "p1000".repeat(12)).personOf(11, 4), 11));
        Check.edge(PEOPLE, words, () -> Check.same("another family", of("Rp1000p1010").personOf(0, 4), 0));
        Check.edge(PEOPLE, words, () -> Check.same("another bench, another age", of("Rp1053p9950").personOf(0, 4), 1));
    }

    private static void namesEver() {
        String words = "There are at most 40 names ever, numbered from 0 in the order in which they were given.";
        Check.edge(PEOPLE, words, () -> {
            NameBenches x = fewerThanForty(39);
            Check.same("the 40th", x.give(1, 0, 2, ZZ), 0);
            Check.same("its letters", x.nameOf(39, 1), ZZ);
            Check.fails("name 40", BOUNDS, () -> x.nameOf(40, 0));
        });
        Check.edge(PEOPLE, words, () -> {
            NameBenches x = forty();
            Check.same("a 41st", x.give(0, 1, 1, A), 5);
            Check.same("names", x.about(1), 40);
        });
        Check.edge(PEOPLE, words, () -> {
            NameBenches x = fewerThanForty(39);
            x.give(0, 1, 1, B);
            abouts(x, "one of 40 is alive", 3, 40, 1, 0, 39, 0, 0, 39, 0);
            Check.same("roll", x.roll(0), 39);
            Check.same("no more", x.roll(1), NONE);
            Check.same("meant, person by person", x.meant(0, 1, B, 0), 1);
            Check.same("meant, by the names", x.meant(0, 1, B, 1), 1);
            Check.same("nobody by a name that is forgotten", x.meant(0, 1, A, 1), NONE);
            Check.same("names given", x.personOf(0, 5), 40);
            Check.same("that were sticking", x.personOf(0, 6), 0);
            Check.same("the best giver", x.bestGiver(), 0);
            Check.same("sit", x.sit(1, 3), 0);
            Check.same("years", x.years(1), 1);
        });
        Check.edge(PEOPLE, words, () -> {
            NameBenches x = of("Rp1000p1000g0100B.g0001A.g0001C.");
            Check.same("the first", x.nameOf(0, 1), B);
            Check.same("the second", x.nameOf(1, 1), A);
            Check.same("the third", x.nameOf(2, 1), C);
        });
    }

    private static void lettersOfNames() {
        String words = "A name has 1 to 4 letters, A to Z";
        Check.edge(PEOPLE, words, () -> Check.same("A", three().give(1, 0, 1, 24), 0));
        Check.edge(PEOPLE, words, () -> Check.same("ZZZZ", three().give(1, 0, 4, ZZZZ), 0));
        Check.edge(PEOPLE, words, () -> Check.fails("none", ARGUMENT, () -> three().give(1, 0, 0, 0)));
        Check.edge(PEOPLE, words, () -> Check.fails("five", ARGUMENT, () -> three().give(1, 0, 5, 0)));
        Check.edge(PEOPLE, words, () -> Check.fails("behind Z", ARGUMENT, () -> three().give(1, 0, 1, 26)));
        Check.edge(PEOPLE, words, () -> Check.fails("ahead of A", ARGUMENT, () -> three().give(1, 0, 1, -1)));
    }

    private static void whatNamesHave() {
        Check.edge(PEOPLE, "whoever gave it, whoever has it (another one)",
            () -> Check.same("one's own", of("Rp1000").give(0, 0, 1, A), 1));
        Check.edge(PEOPLE, "the year of the latest use (or when it was given, without one)", () -> {
            NameBenches x = of("Rp1000p1000s29y4g0001A.y2");
            Check.same("without a use", x.nameOf(0, 5), 4);
            x.call(0, 1, A);
            Check.same("with one", x.nameOf(0, 5), 6);
        });
    }

    /** Names 0 to 4 have the states 4, 3, 2, 0 and 1; those that are alive are A of person 1 and D of person 3. */
    private static NameBenches oneOfEachState() {
        NameBenches x = of("Rp1100p0500p1111p0511s01g0100A.g0302B.g0203C.c0A.y3g0203D.c1D.");
        states(x, "one of each", HANDED_ON, OUTGROWN, FORGOTTEN, NEW, STICKING);
        return x;
    }

    private static void aliveNames() {
        String words = "Names that are new or sticking are alive.";
        Check.edge(PEOPLE, words, () -> Check.same("a new one", oneOfEachState().personOf(1, 3), 1));
        Check.edge(PEOPLE, words, () -> Check.same("a sticking one", oneOfEachState().personOf(3, 3), 1));
        Check.edge(PEOPLE, words, () -> Check.same("a forgotten one", oneOfEachState().meant(1, 1, C, 0), NONE));
        Check.edge(PEOPLE, words, () -> Check.same("an outgrown one", oneOfEachState().personOf(2, 3), 0));
        Check.edge(PEOPLE, words, () -> Check.same("one that is handed on", oneOfEachState().personOf(0, 3), 0));
        Check.edge(PEOPLE, words, () -> {
            NameBenches x = oneOfEachState();
            Check.same("the new one", x.roll(0), 3);
            Check.same("the sticking one", x.roll(1), 4);
            Check.same("no more", x.roll(2), NONE);
        });
        Check.edge(PEOPLE, "0 new, 1 sticking, 2 forgotten, 3 outgrown, 4 handed on", () -> {
            NameBenches x = oneOfEachState();
            for (int state = 0; state <= 4; state++) {
                Check.same("names with the state " + state, x.about(2 + state), 1);
            }
        });
    }

    private static void threeAlive() {
        String words = "One person has at most 3 names that are alive.";
        Check.edge(PEOPLE, words, () -> Check.same("the third", three().personOf(1, 3), 3));
        Check.edge(PEOPLE, words, () -> {
            NameBenches x = three();
            Check.same("a fourth", x.give(0, 1, 1, D), 3);
            Check.same("still three", x.personOf(1, 3), 3);
        });
        Check.edge(PEOPLE, words, () -> {
            NameBenches x = of("Rp0000p0000s29g0001A.y1g0001B.g0001C.y2");
            Check.same("one is forgotten", x.nameOf(0, 6), FORGOTTEN);
            Check.same("another in its place", x.give(0, 1, 1, D), 0);
            Check.same("but no more", x.give(0, 1, 1, A), 3);
        });
    }

    // ---- GIVING

    private static void givingToOneself() {
        String words = "1: the giver would be the one who gets it";
        Check.edge(GIVING, words, () -> Check.same("the only person", of("Rp1000").give(0, 0, 1, A), 1));
        Check.edge(GIVING, words, () -> Check.same("one of two", three().why(0, 0, 1, Z), 1));
        Check.edge(GIVING, words, () -> Check.same("not to the other", three().why(1, 0, 1, Z), 0));
    }

    private static void givingToStrangers() {
        String words = "2: they are neither brothers nor on the same bench";
        Check.edge(GIVING, words, () -> Check.same("neither", of("Rp1000p1011").why(0, 1, 1, A), 2));
        Check.edge(GIVING, words, () -> Check.same("brothers alone", of("Rp1000p1001").why(0, 1, 1, A), 0));
        Check.edge(GIVING, words, () -> Check.same("the same bench alone", of("Rp1000p1010").why(0, 1, 1, A), 0));
        Check.edge(GIVING, words, () -> Check.same("family and bench alike", of("Rp1001p1010").why(0, 1, 1, A), 2));
        Check.edge(GIVING, words, () -> Check.same("come to the bench", of("Rp1000p1011b001").why(0, 1, 1, A), 0));
        Check.edge(GIVING, words, () -> Check.same("gone from the bench", of("Rp1000p1010b003").why(0, 1, 1, A), 2));
    }

    private static void givingAFourth() {
        String words = "3: the one who gets it has 3 names that are alive";
        Check.edge(GIVING, words, () -> Check.same("three", three().why(0, 1, 1, D), 3));
        Check.edge(GIVING, words, () -> Check.same("two", of("Rp1000p1000g0001A.g0001B.").why(0, 1, 1, D), 0));
        Check.edge(GIVING, words, () -> Check.same("three of the giver", three().why(1, 0, 1, D), 0));
        Check.edge(GIVING, words, () -> {
            NameBenches x = three();
            x.years(3);
            Check.same("three that are forgotten", x.why(0, 1, 1, D), 0);
        });
        Check.edge(GIVING, words, () -> {
            NameBenches x = of("Rp1000p1000s01g0001A.g0001B.g0001C.c0A.c0B.c0C.");
            Check.same("three that are sticking", x.why(0, 1, 1, D), 3);
        });
    }

    private static void givingTakenLetters() {
        String words = "4: somebody on the bench of the one who gets it (also that one) has a name with the same letters "
            + "that is alive";
        NameBenches x = of("Rp1000p1000p1010p1001p1011g0001A.g0102B.g0103AA.g0204C.y2");
        Check.edge(GIVING, words, () -> Check.same("a brother on the bench", x.why(2, 0, 1, A), 4));
        Check.edge(GIVING, words, () -> Check.same("a stranger on the bench", x.why(1, 0, 1, B), 4));
        Check.edge(GIVING, words, () -> Check.same("that one", x.why(0, 1, 1, A), 4));
        Check.edge(GIVING, words, () -> Check.same("the giver, on the bench", x.why(1, 0, 1, A), 4));
        Check.edge(GIVING, words, () -> Check.same("the giver, on another bench", x.why(1, 3, 1, A), 0));
        Check.edge(GIVING, words, () -> Check.same("somebody on another bench", x.why(0, 3, 1, B), 0));
        Check.edge(GIVING, words, () -> Check.same("on the bench of the one who gets it", x.why(0, 3, 1, C), 4));
        Check.edge(GIVING, words, () -> Check.same("the code of other letters", x.why(1, 0, 2, AA), 0));
        Check.edge(GIVING, words, () -> {
            NameBenches y = of("Rp1000p1000g0001A.b013");
            Check.same("not behind a sit", y.why(1, 0, 1, A), 0);
        });
        Check.edge(GIVING, words, () -> {
            NameBenches y = of("Rp1000p1000g0001A.y3");
            Check.same("not when it is forgotten", y.why(1, 0, 1, A), 0);
            Check.same("nor for whoever had it", y.why(0, 1, 1, A), 0);
        });
        Check.edge(GIVING, words, () -> {
            NameBenches y = of("Rp1000p1000s01g0001A.c0A.");
            Check.same("when it is sticking", y.why(1, 0, 1, A), 4);
        });
    }

    private static void givingA41st() {
        String words = "5: 40 names were given";
        Check.edge(GIVING, words, () -> Check.same("39", fewerThanForty(39).why(0, 1, 1, A), 0));
        Check.edge(GIVING, words, () -> Check.same("40 that are all forgotten", forty().why(0, 1, 1, A), 5));
    }

    private static void givingReasonsInOrder() {
        String words = "A name cannot be given for the first of these reasons that is so";
        Check.edge(GIVING, words, () -> Check.same("1 before 3", three().why(1, 1, 1, D), 1));
        Check.edge(GIVING, words, () -> Check.same("1 before 4", three().why(0, 0, 1, A), 1));
        Check.edge(GIVING, words, () -> Check.same("1 before 5", forty().why(0, 0, 1, A), 1));
        Check.edge(GIVING, words, () -> Check.same("2 before 3", three().why(2, 1, 1, D), 2));
        Check.edge(GIVING, words, () -> Check.same("2 before 4", three().why(2, 0, 1, A), 2));
        Check.edge(GIVING, words, () -> Check.same("2 before 5", forty().why(2, 0, 1, A), 2));
        Check.edge(GIVING, words, () -> Check.same("3 before 4", three().why(0, 1, 1, A), 3));
        Check.edge(GIVING, words, () -> {
            NameBenches x = fewerThanForty(37);
            x.give(0, 1, 1, A);
            x.give(0, 1, 1, B);
            x.give(0, 1, 1, C);
            Check.same("3 before 5", x.why(0, 1, 1, D), 3);
            Check.same("5 alone", x.why(1, 0, 1, D), 5);
        });
        Check.edge(GIVING, words, () -> {
            NameBenches x = fewerThanForty(39);
            x.give(0, 1, 1, A);
            Check.same("4 before 5", x.why(1, 0, 1, A), 4);
            Check.same("5 alone", x.why(1, 0, 1, B), 5);
        });
    }

    // ---- CALLS

    /** Told in both ways, and by the call itself. */
    private static void means(NameBenches x, int b, int many, int code, int due) {
        Check.same("person by person", x.meant(b, many, code, 0), due);
        Check.same("by the names", x.meant(b, many, code, 1), due);
        Check.same("call", x.call(b, many, code), due);
    }

    private static void callOfOneWhoHasIt() {
        String words = "means the person on this bench who has a name with these letters that is alive";
        Check.edge(CALLS, words, () -> means(of("Rp1000p1000g0001A."), 0, 1, A, 1));
        Check.edge(CALLS, words, () -> means(of("Rp1001p1010p1011p1000g0003A.g0102A."), 0, 1, A, 3));
        Check.edge(CALLS, words, () -> means(of("Rp1001p1010p1011p1000g0102A.g0003A."), 0, 1, A, 3));
        Check.edge(CALLS, words, () -> means(of("Rp1000p1000g0001A.y3"), 0, 1, A, NONE));
        Check.edge(CALLS, words, () -> means(of("Rp1000p1000g0001A."), 0, 2, AA, NONE));
        Check.edge(CALLS, words, () -> means(of("Rp1000p1000g0001AA."), 0, 1, A, NONE));
        Check.edge(CALLS, words, () -> means(of("Rp1000p1000g0001A.b013"), 3, 1, A, 1));
        String one = "(there is one at most)";
        Check.edge(CALLS, one, () -> {
            NameBenches x = of("Rp1000p1000g0001A.");
            x.give(1, 0, 1, A);
            means(x, 0, 1, A, 1);
        });
        Check.edge(CALLS, one, () -> {
            NameBenches x = of("Rp1000p1001g0001A.g0100A.");
            Check.fails("sit", STATE, () -> x.sit(0, 1));
            means(x, 1, 1, A, 1);
        });
    }

    private static void callOfABrother() {
        String words = "If there is none, it means the lowest person on this bench of whom a brother, on whatever bench, "
            + "has such a name";
        for (int bench = 1; bench < 4; bench++) {
            String text = "Rp1000p1000p100" + bench + "g0002A.";
            Check.edge(CALLS, words, () -> means(of(text), 0, 1, A, 0));
        }
        Check.edge(CALLS, words, () -> means(of("Rp1001p1000p1000g0100A."), 0, 1, A, 1));
        Check.edge(CALLS, words, () -> means(of("Rp1010p1000p1011p1002g0103A.g0002A."), 0, 1, A, 0));
        Check.edge(CALLS, words, () -> means(of("Rp1010p1000p1011p1002g0002A.g0103A."), 0, 1, A, 0));
        Check.edge(CALLS, words, () -> means(of("Rp1010p1000p1001g0102A."), 0, 1, A, 1));
        String several = "of several such brothers the one with the lowest number counts";
        Check.edge(CALLS, several, () -> {
            NameBenches x = of("Rp1000p1001p1002g0102A.g0201A.");
            means(x, 0, 1, A, 0);
            Check.same("the lower one", x.personOf(1, 8), 1);
            Check.same("the higher one", x.personOf(2, 8), 0);
        });
        Check.edge(CALLS, several, () -> {
            NameBenches x = of("Rp0001p0002p0000g0001A.g0100A.y2c1A.y1");
            x.call(0, 1, A);
            Check.same("one whose name is forgotten", x.personOf(1, 8), 0);
            Check.same("one whose name is alive", x.personOf(0, 8), 1);
        });
    }

    private static void callOfNobody() {
        String words = "Otherwise it means nobody.";
        Check.edge(CALLS, words, () -> means(new NameBenches(), 3, 4, ZZZZ, NONE));
        Check.edge(CALLS, words, () -> means(of("Rp1000p1000g0001A."), 0, 1, B, NONE));
        Check.edge(CALLS, words, () -> means(of("Rp1000p1000g0001A."), 1, 1, A, NONE));
        Check.edge(CALLS, words, () -> means(of("Rp1000p1000p1011g0001A."), 1, 1, A, NONE));
        Check.edge(CALLS, words, () -> means(of("Rp1001p1000g0100A.y3"), 0, 1, A, NONE));
    }

    private static void use() {
        Check.edge(CALLS, "If it means one who has the name, this is a use of it: the uses become 1 more", () -> {
            NameBenches x = of("Rp1000p1000g0001A.g0001B.");
            x.call(0, 1, A);
            Check.same("the name", x.nameOf(0, 4), 1);
            Check.same("another of the same one", x.nameOf(1, 4), 0);
            Check.same("that is no mix", x.about(9), 0);
            Check.same("nor a call of nobody", x.about(10), 0);
        });
        Check.edge(CALLS, "the year of now is that of its latest use", () -> {
            NameBenches x = of("Rp1000p1000g0001A.g0001B.y2");
            x.call(0, 1, A);
            Check.same("the name", x.nameOf(0, 5), 2);
            Check.same("another of the same one", x.nameOf(1, 5), 0);
        });
    }

    private static void sticking() {
        String words = "if it is new, and the uses are setting 0 or more then, it is sticking";
        for (int setting = 1; setting <= 9; setting++) {
            String text = "Rp1000p1000s0" + setting + "g0001A.";
            int uses = setting;
            Check.edge(CALLS, words, () -> {
                NameBenches x = of(text);
                calls(x, uses - 1, 0, 1, A);
                Check.same("one use too few", x.nameOf(0, 6), NEW);
                x.call(0, 1, A);
                Check.same("enough uses", x.nameOf(0, 6), STICKING);
                Check.same("that is kept in mind", x.nameOf(0, 7), 1);
            });
        }
        Check.edge(CALLS, words, () -> {
            NameBenches x = of("Rp1000p1000s09g0001A.c0A.c0A.c0A.s02");
            Check.same("a lower setting alone", x.nameOf(0, 6), NEW);
            x.call(0, 1, A);
            Check.same("more uses than the setting", x.nameOf(0, 6), STICKING);
        });
        Check.edge(CALLS, words, () -> {
            NameBenches x = of("Rp1000p1000s01g0001A.c0A.s09c0A.");
            Check.same("it does not become new again", x.nameOf(0, 6), STICKING);
        });
    }

    private static void mix() {
        NameBenches x = of("Rp1000p1001s01g0001A.y2c0A.");
        Check.edge(CALLS, "If it means a brother, this is a mix: it is counted for this brother (who is called so)",
            () -> Check.same("called so", x.personOf(0, 7), 1));
        Check.edge(CALLS, "and for the one who has the name", () -> Check.same("has it", x.personOf(1, 8), 1));
        Check.edge(CALLS, "and for the one who has the name", () -> {
            Check.same("not the other way round", x.personOf(0, 8), 0);
            Check.same("nor that", x.personOf(1, 7), 0);
        });
        Check.edge(CALLS, "and the name is not used by it", () -> Check.same("uses", x.nameOf(0, 4), 0));
        Check.edge(CALLS, "and the name is not used by it", () -> Check.same("latest", x.nameOf(0, 5), 0));
        Check.edge(CALLS, "and the name is not used by it", () -> Check.same("state", x.nameOf(0, 6), NEW));
        Check.edge(CALLS, "and the name is not used by it", () -> Check.same("forgotten a year later", x.years(1), 1));
    }

    // ---- SETTINGS

    private static void settings() {
        String[] words = {"0: uses until a name sticks, 1 to 9", "1: years until a name is forgotten, 1 to 9",
            "2: years for a quarter of a letter, 0 to 9"};
        int[] least = {1, 1, 0};
        for (int i = 0; i < 3; i++) {
            int what = i;
            int lowest = least[i];
            Check.edge(SETTINGS, words[i], () -> {
                NameBenches x = new NameBenches();
                x.set(what, lowest);
                Check.same("the least", x.about(12 + what), lowest);
            });
            Check.edge(SETTINGS, words[i], () -> {
                NameBenches x = new NameBenches();
                x.set(what, 9);
                Check.same("the most", x.about(12 + what), 9);
            });
            Check.edge(SETTINGS, words[i],
                () -> Check.fails("too small", ARGUMENT, () -> new NameBenches().set(what, lowest - 1)));
            Check.edge(SETTINGS, words[i], () -> Check.fails("too large", ARGUMENT, () -> new NameBenches().set(what, 10)));
        }
    }

    // ---- LETTERS IN CALLS

    private static void codes() {
        String words = "the letters as digits to the base 26, A as 0 to Z as 25, the first letter the highest digit";
        String two = "so with 2 letters 0 is AA, 1 is AB, and 675 is ZZ";
        codeIs(two, "AA", AA);
        codeIs(two, "AB", 1);
        codeIs(two, "ZZ", 675);
        codeIs(words, "A", 0);
        codeIs(words, "Z", 25);
        codeIs(words, "BA", 26);
        codeIs(words, "AAA", 0);
        codeIs(words, "BAA", 676);
        codeIs(words, "ZZZ", 17575);
        codeIs(words, "AAAA", 0);
        codeIs(words, "BAAA", 17576);
        codeIs(words, "ABCD", 731);
        codeIs(words, "ZZZZ", 456975);
        String told = "(a code is out of its range if it is not one of the codes for that number of letters)";
        Check.edge(LETTERS, told, () -> wrongCodes("meant", (many, code) -> () -> three().meant(0, many, code, 0)));
        Check.edge(LETTERS, told, () -> wrongCodes("give", (many, code) -> () -> three().give(1, 0, many, code)));
        Check.edge(LETTERS, told, () -> wrongCodes("call", (many, code) -> () -> three().call(0, many, code)));
        Check.edge(LETTERS, told, () -> wrongCodes("why", (many, code) -> () -> three().why(1, 0, many, code)));
    }

    /** The letters of a text have this code, and a name that is given by the code has these letters. */
    private static void codeIs(String words, String letters, int code) {
        int many = letters.length();
        Check.edge(LETTERS, words, () -> {
            NameBenches x = of("Rp1000p1000g0001" + letters + ".");
            Check.same("code of " + letters, x.nameOf(0, 1), code);
            Check.same("meant by it", x.meant(0, many, code, 0), 1);
        });
        Check.edge(LETTERS, words, () -> {
            NameBenches x = of("Rp1000p1000");
            x.give(0, 1, many, code);
            for (int place = 0; place < many; place++) {
                Check.same("letter " + place + " of " + letters, x.letter(0, place), letters.charAt(place) - 'A');
            }
        });
    }
}
