import java.util.function.Consumer;

/** Promises 12 to 18 and ACTIONS AND UNDO: each sentence that names an edge has a test of its own. */
public final class ActionEdgesTest extends TestBase {
    private static final String TWELVE = "Promise 12, person";
    private static final String THIRTEEN = "Promise 13, sit";
    private static final String FOURTEEN = "Promise 14, give";
    private static final String FIFTEEN = "Promise 15, call";
    private static final String SIXTEEN = "Promise 16, years";
    private static final String SEVENTEEN = "Promise 17, set";
    private static final String EIGHTEEN = "Promise 18, undo";

    public static void main(String[] args) {
        personInRange();
        personOutOfRange();
        personOfTwelve();
        sitInRange();
        sitOutOfRange();
        sitWithNames();
        giveRange();
        giveAnswers();
        callRange();
        callAnswers();
        yearsRange();
        yearsAbove999();
        yearsAnswers();
        setRange();
        setAnswers();
        undoOfNone();
        undoAnswers();
        undoOfEach();
        undoOfCounts();
        undonePersonIsGone();
        undoneNameIsGone();
        undoOfUndo();
        fourteenStates();
        nothingDifferent();
        thrownIsNoAction();
        textAndSlotsStay();
        Check.end();
    }

    // ---- Promise 12

    private static void personInRange() {
        Check.edge(TWELVE, "0 to 99", () -> {
            NameBenches x = new NameBenches();
            x.person(0, 0, 0);
            Check.same("the youngest", x.personOf(0, 0), 0);
        });
        Check.edge(TWELVE, "0 to 99", () -> {
            NameBenches x = new NameBenches();
            x.person(99, 0, 0);
            Check.same("the oldest", x.personOf(0, 0), 99);
        });
        Check.edge(TWELVE, "0 to 5", () -> {
            NameBenches x = new NameBenches();
            x.person(9, 0, 2);
            x.person(9, 5, 2);
            Check.same("the first family", x.personOf(0, 1), 0);
            Check.same("the last family", x.personOf(1, 1), 5);
        });
        Check.edge(TWELVE, "0 to 3", () -> {
            NameBenches x = new NameBenches();
            x.person(9, 2, 0);
            x.person(9, 2, 3);
            Check.same("the first bench", x.personOf(0, 2), 0);
            Check.same("the last bench", x.personOf(1, 2), 3);
        });
        Check.edge(TWELVE, "Returns the person's number.", () -> {
            NameBenches x = new NameBenches();
            Check.same("the first", x.person(9, 0, 0), 0);
            Check.same("the second", x.person(9, 0, 0), 1);
        });
        Check.edge(TWELVE, "A person comes.", () -> {
            NameBenches x = of("Rp1000p1000s01g0001A.c0A.y1p1000");
            for (int what = 3; what < 9; what++) {
                if (what != 4) {
                    Check.same("of one who comes late " + what, x.personOf(2, what), 0);
                }
            }
        });
    }

    private static void personOutOfRange() {
        for (int bad : new int[] {-1, 6, LEAST, MOST}) {
            Check.edge(TWELVE, "Throws `IndexOutOfBoundsException` if there is no such family or bench",
                () -> refusesWholly("family " + bad, BOUNDS, x -> x.person(9, bad, 0)));
        }
        for (int bad : new int[] {-1, 4, LEAST, MOST}) {
            Check.edge(TWELVE, "Throws `IndexOutOfBoundsException` if there is no such family or bench",
                () -> refusesWholly("bench " + bad, BOUNDS, x -> x.person(9, 0, bad)));
        }
        for (int bad : new int[] {-1, 100, LEAST, MOST}) {
            Check.edge(TWELVE, "Throws `IllegalArgumentException` if age is out of range",
                () -> refusesWholly("age " + bad, ARGUMENT, x -> x.person(bad, 0, 0)));
        }
    }

    private static void personOfTwelve() {
        String words = "Throws `IllegalStateException` if there are 12";
        Check.edge(TWELVE, words, () -> Check.same("a 12th", of("R" + "p1000".repeat(11)).person(9, 0, 0), 11));
        Check.edge(TWELVE, words, () -> {
            NameBenches x = of("R" + "p1000".repeat(12));
            refuses(x, "a 13th", STATE, () -> x.person(9, 0, 0));
            Check.fails("that is no action", STATE, x::undo);
        });
        Check.edge(TWELVE, words, () -> {
            NameBenches x = of("R" + "p1000".repeat(11));
            x.person(9, 0, 0);
            x.undo();
            Check.same("a 12th once more", x.person(8, 0, 0), 11);
            Check.same("the new one", x.personOf(11, 0), 8);
        });
    }

    // ---- Promise 13

    private static void sitInRange() {
        Check.edge(THIRTEEN, "A person goes to a bench", () -> {
            NameBenches x = of("Rp1001");
            x.sit(0, 0);
            Check.same("the first bench", x.personOf(0, 2), 0);
        });
        Check.edge(THIRTEEN, "A person goes to a bench", () -> {
            NameBenches x = of("R" + "p1000".repeat(12));
            x.sit(11, 3);
            Check.same("the last person on the last bench", x.personOf(11, 2), 3);
            Check.same("nobody else", x.personOf(10, 2), 0);
        });
        Check.edge(THIRTEEN, "the names go along", () -> {
            NameBenches x = of("Rp1000p1000g0001A.");
            x.sit(1, 3);
            Check.same("there", x.meant(3, 1, A, 0), 1);
            Check.same("whoever is left is meant as a brother", x.meant(0, 1, A, 0), 0);
        });
        Check.edge(THIRTEEN, "Returns the bench where the person was.", () -> {
            NameBenches x = of("Rp1002");
            Check.same("before", x.sit(0, 3), 2);
            Check.same("then", x.sit(0, 0), 3);
            Check.same("the same bench", x.sit(0, 0), 0);
        });
    }

    private static void sitOutOfRange() {
        String words = "Throws `IndexOutOfBoundsException` if there is no such person or bench";
        Check.edge(THIRTEEN, words, () -> Check.fails("no people", BOUNDS, () -> new NameBenches().sit(0, 0)));
        for (int bad : new int[] {-1, 3, LEAST, MOST}) {
            Check.edge(THIRTEEN, words, () -> refusesWholly("person " + bad, BOUNDS, x -> x.sit(bad, 0)));
        }
        for (int bad : new int[] {-1, 4, LEAST, MOST}) {
            Check.edge(THIRTEEN, words, () -> refusesWholly("bench " + bad, BOUNDS, x -> x.sit(0, bad)));
        }
    }

    private static void sitWithNames() {
        String words = "Throws `IllegalStateException` if somebody else on that bench has a name that is alive "
            + "with the letters of one of this person";
        // 1 on bench 1 and 3 on bench 0 have A; 1 has B, too
        String text = "Rp1000p1001p1011p1010g0001B.g0001A.g0203A.";
        Check.edge(THIRTEEN, words, () -> refusesOne(of(text), 1, 0));
        Check.edge(THIRTEEN, words, () -> refusesOne(of(text), 3, 1));
        Check.edge(THIRTEEN, words, () -> refusesOne(of("Rp1000p1001g0001A.g0100A."), 1, 0));
        Check.edge(THIRTEEN, words, () -> refusesOne(of("Rp1000p1001s01g0001A.g0100A.c0A.c1A."), 1, 0));
        Check.edge(THIRTEEN, words, () -> Check.same("another bench", of(text).sit(1, 2), 1));
        Check.edge(THIRTEEN, words, () -> Check.same("the own bench", of(text).sit(1, 1), 1));
        Check.edge(THIRTEEN, words, () -> Check.same("without a name", of(text).sit(2, 0), 1));
        Check.edge(THIRTEEN, words, () -> Check.same("with other letters", of("Rp1000p1001g0001A.g0100AA.").sit(1, 0), 1));
        Check.edge(THIRTEEN, words,
            () -> Check.same("the other's is forgotten", of("Rp0000p0001g0100A.y1g0001A.y2").sit(1, 0), 1));
        Check.edge(THIRTEEN, words,
            () -> Check.same("the own is forgotten", of("Rp0000p0001g0001A.y1g0100A.y2").sit(1, 0), 1));
    }

    private static void refusesOne(NameBenches x, int p, int bench) {
        refuses(x, "sit " + p + " " + bench, STATE, () -> x.sit(p, bench));
        Check.fails("that is no action", STATE, x::undo);
    }

    // ---- Promise 14

    private static void giveRange() {
        String nobody = "Throws `IndexOutOfBoundsException` if there is no such person (either of them)";
        for (int bad : new int[] {-1, 3, LEAST, MOST}) {
            Check.edge(FOURTEEN, nobody, () -> refusesWholly("giver " + bad, BOUNDS, x -> x.give(bad, 0, 1, Z)));
            Check.edge(FOURTEEN, nobody, () -> refusesWholly("to " + bad, BOUNDS, x -> x.give(0, bad, 1, Z)));
            Check.edge(FOURTEEN, nobody, () -> refusesWholly("both " + bad, BOUNDS, x -> x.give(bad, bad, 1, Z)));
        }
        String other = "Throws `IllegalArgumentException` if another argument is out of range";
        for (int bad : new int[] {-1, 0, 5, LEAST, MOST}) {
            Check.edge(FOURTEEN, other, () -> refusesWholly("many " + bad, ARGUMENT, x -> x.give(0, 1, bad, 0)));
        }
        int[] codes = {26, 676, 17576, 456976};
        for (int i = 0; i < 4; i++) {
            int many = i + 1;
            int code = codes[i];
            Check.edge(FOURTEEN, other, () -> refusesWholly("too large", ARGUMENT, x -> x.give(1, 0, many, code)));
            Check.edge(FOURTEEN, other, () -> refusesWholly("too small", ARGUMENT, x -> x.give(1, 0, many, -1)));
            Check.edge(FOURTEEN, other, () -> Check.same("the largest", busy().give(1, 0, many, code - 1), 0));
        }
        Check.edge(FOURTEEN, other, () -> Check.fails("also if it is refused", ARGUMENT, () -> busy().give(0, 0, 1, 26)));
    }

    private static void giveAnswers() {
        String words = "Returns 0 if it is given, otherwise the reason why not.";
        Check.edge(FOURTEEN, words, () -> {
            NameBenches x = of("Rp1000p1000p1010p1001y2");
            Check.same("given", x.give(3, 1, 2, AB), 0);
            int[] due = {2, 1, 3, 1, 0, 2, 0, 0};
            for (int what = 0; what < 8; what++) {
                Check.same("of the name: " + what, x.nameOf(0, what), due[what]);
            }
        });
        Check.edge(FOURTEEN, "A name is given, if it can be.", () -> {
            NameBenches x = of("Rp1000p1011");
            Check.same("refused", x.give(0, 1, 1, A), 2);
            Check.same("it is not given", x.about(1), 0);
            Check.same("it is counted", x.about(11), 1);
        });
    }

    // ---- Promise 15

    private static void callRange() {
        String bench = "Throws `IndexOutOfBoundsException` if there is no such bench";
        for (int bad : new int[] {-1, 4, LEAST, MOST}) {
            Check.edge(FIFTEEN, bench, () -> refusesWholly("bench " + bad, BOUNDS, x -> x.call(bad, 1, A)));
        }
        String other = "Throws `IllegalArgumentException` if another argument is out of range";
        for (int bad : new int[] {-1, 0, 5, LEAST, MOST}) {
            Check.edge(FIFTEEN, other, () -> refusesWholly("many " + bad, ARGUMENT, x -> x.call(1, bad, A)));
        }
        int[] codes = {26, 676, 17576, 456976};
        for (int i = 0; i < 4; i++) {
            int many = i + 1;
            int code = codes[i];
            Check.edge(FIFTEEN, other, () -> refusesWholly("too large", ARGUMENT, x -> x.call(1, many, code)));
            Check.edge(FIFTEEN, other, () -> refusesWholly("too small", ARGUMENT, x -> x.call(1, many, -1)));
            Check.edge(FIFTEEN, other, () -> Check.same("the largest", busy().call(1, many, code - 1), NONE));
        }
    }

    private static void callAnswers() {
        String words = "NONE if it means nobody (which is counted)";
        for (int bench = 0; bench < 4; bench++) {
            int b = bench;
            Check.edge(FIFTEEN, words, () -> {
                NameBenches x = new NameBenches();
                Check.same("nobody", x.call(b, 1, A), NONE);
                Check.same("counted", x.about(10), 1);
            });
        }
        String whom = "Returns the person whom it means";
        Check.edge(FIFTEEN, whom, () -> Check.same("of bench 0", of("Rp1000p1000g0001A.").call(0, 1, A), 1));
        Check.edge(FIFTEEN, whom, () -> Check.same("of bench 3", of("Rp1003p1003g0100ZZZZ.").call(3, 4, ZZZZ), 0));
        Check.edge(FIFTEEN, whom, () -> Check.same("a brother", of("Rp1000p1001g0001A.").call(0, 1, A), 0));
    }

    // ---- Promise 16

    private static void yearsRange() {
        String words = "Throws `IllegalArgumentException` if n is out of range";
        for (int n = 1; n <= 9; n++) {
            int many = n;
            Check.edge(SIXTEEN, "1 to 9", () -> {
                NameBenches x = new NameBenches();
                x.years(many);
                Check.same("the year", x.about(7), many);
            });
        }
        for (int bad : new int[] {0, 10, -1, LEAST, MOST}) {
            Check.edge(SIXTEEN, words, () -> refusesWholly("years " + bad, ARGUMENT, x -> x.years(bad)));
        }
    }

    private static NameBenches inYear(int year) {
        NameBenches x = of("Rp1000");
        years(x, year);
        Check.same("the year", x.about(7), year);
        return x;
    }

    private static void yearsAbove999() {
        String words = "Throws `IllegalStateException` if the year would be above 999";
        for (int n = 1; n <= 9; n++) {
            int many = n;
            Check.edge(SIXTEEN, words, () -> {
                NameBenches x = inYear(999 - many);
                Check.same("to 999", x.years(many), 0);
                Check.same("the year", x.about(7), 999);
            });
            Check.edge(SIXTEEN, words, () -> {
                NameBenches x = inYear(1000 - many);
                refuses(x, "to 1000", STATE, () -> x.years(many));
            });
        }
        Check.edge(SIXTEEN, words, () -> {
            NameBenches x = inYear(998);
            Check.fails("two years", STATE, () -> x.years(2));
            Check.same("one year still goes by", x.years(1), 0);
            Check.same("the person is older", x.personOf(0, 0), 1009);
        });
        Check.edge(SIXTEEN, words, () -> {
            NameBenches x = inYear(999);
            x.set(0, 1);
            Check.fails("years", STATE, () -> x.years(1));
            Check.same("that is no action: the set is undone", x.undo(), 13);
            Check.same("the year", x.about(7), 999);
        });
    }

    private static void yearsAnswers() {
        String words = "Returns how many names are forgotten, outgrown or handed on in them.";
        Check.edge(SIXTEEN, words, () -> Check.same("of none", of("Rp1000").years(9), 0));
        Check.edge(SIXTEEN, words, () -> Check.same("a forgotten one", of("Rp0000p0000s11g0001A.").years(1), 1));
        Check.edge(SIXTEEN, words, () -> Check.same("an outgrown one", of("Rp2000p2000g0001A.").years(1), 1));
        Check.edge(SIXTEEN, words, () -> Check.same("one handed on", of("Rp1200p0500s01g0100A.c0A.").years(1), 1));
        Check.edge(SIXTEEN, words, () -> Check.same("one of each, in two years",
            of("Rp1100p0500p2010s01s12g0100A.g0201BB.g0002C.c0A.").years(2), 3));
        Check.edge(SIXTEEN, words, () -> Check.same("not those that ended before", of("Rp2000p2000g0001A.y1").years(9), 0));
        Check.edge(SIXTEEN, words, () -> Check.same("one handed on and then forgotten",
            of("Rp1200p0500s01g0100A.c0A.").years(4), 2));
    }

    // ---- Promise 17

    private static void setRange() {
        String words = "Throws `IllegalArgumentException` if what or v is out of range";
        for (int bad : new int[] {-1, 3, LEAST, MOST}) {
            Check.edge(SEVENTEEN, words, () -> refusesWholly("what " + bad, ARGUMENT, x -> x.set(bad, 3)));
        }
        for (int i = 0; i < 3; i++) {
            int what = i;
            for (int bad : new int[] {-1, 10, LEAST, MOST}) {
                Check.edge(SEVENTEEN, words, () -> refusesWholly("v " + bad, ARGUMENT, x -> x.set(what, bad)));
            }
        }
        Check.edge(SEVENTEEN, words, () -> refusesWholly("setting 0 to 0", ARGUMENT, x -> x.set(0, 0)));
        Check.edge(SEVENTEEN, words, () -> refusesWholly("setting 1 to 0", ARGUMENT, x -> x.set(1, 0)));
        Check.edge(SEVENTEEN, "the new value, in its range", () -> Check.same("setting 2 to 0", busy().set(2, 0), 3));
    }

    private static void setAnswers() {
        for (int i = 0; i < 3; i++) {
            int what = i;
            Check.edge(SEVENTEEN, "Returns the previous one.", () -> {
                NameBenches x = new NameBenches();
                Check.same("the first time", x.set(what, 9), 3);
                Check.same("then", x.set(what, 1), 9);
                Check.same("the same one", x.set(what, 1), 1);
                for (int other = 0; other < 3; other++) {
                    Check.same("setting " + other, x.about(12 + other), other == what ? 1 : 3);
                }
            });
        }
    }

    // ---- Promise 18

    private static void undoOfNone() {
        String words = "Throws `IllegalStateException` if none is remembered";
        Check.edge(EIGHTEEN, words, () -> Check.fails("a new one", STATE, new NameBenches()::undo));
        Check.edge(EIGHTEEN, words, () -> Check.fails("a loaded one", STATE, of("Rp1000y1")::undo));
        Check.edge(EIGHTEEN, words, () -> {
            NameBenches x = of("Rp1000");
            x.years(1);
            x.undo();
            refuses(x, "a second undo", STATE, x::undo);
        });
        Check.edge(EIGHTEEN, words, () -> {
            NameBenches x = of("Rp1000");
            Check.fails("undo", STATE, x::undo);
            x.years(1);
            Check.same("one action behind it", x.undo(), 0);
        });
    }

    private static void undoAnswers() {
        String words = "Returns how many states are still remembered.";
        Check.edge(EIGHTEEN, words, () -> {
            NameBenches x = new NameBenches();
            for (int i = 0; i < 14; i++) {
                x.set(2, i % 10);
            }
            for (int i = 13; i >= 0; i--) {
                Check.same("undo", x.undo(), i);
            }
        });
        Check.edge(EIGHTEEN, "Takes back the last action that is remembered.", () -> {
            NameBenches x = new NameBenches();
            x.set(2, 7);
            x.set(2, 8);
            x.undo();
            Check.same("the last", x.about(14), 7);
            x.undo();
            Check.same("the one before", x.about(14), 3);
        });
    }

    /** Takes back one action of each kind. */
    private static void undoOfEach() {
        String words = "Takes back the last action that is remembered.";
        isTakenBack(words, "person", x -> x.person(50, 3, 3));
        isTakenBack(words, "sit", x -> x.sit(2, 0));
        isTakenBack(words, "give", x -> x.give(0, 1, 3, ZZZ));
        isTakenBack(words, "a refused give", x -> x.give(0, 0, 3, ZZZ));
        isTakenBack(words, "a use", x -> x.call(1, 1, A));
        isTakenBack(words, "a mix", x -> x.call(0, 1, A));
        isTakenBack(words, "a call of nobody", x -> x.call(3, 1, A));
        isTakenBack(words, "years that end names", x -> x.years(9));
        isTakenBack(words, "set 0", x -> x.set(0, 9));
        isTakenBack(words, "set 1", x -> x.set(1, 9));
        isTakenBack(words, "set 2", x -> x.set(2, 9));
    }

    private static void isTakenBack(String words, String what, Consumer<NameBenches> action) {
        Check.edge(EIGHTEEN, words, () -> {
            NameBenches x = busy();
            String before = all(x);
            action.accept(x);
            Check.that(what + " makes a difference", !before.equals(all(x)));
            Check.same(what + " is one action", x.undo(), 3);
            Check.that(what + " is taken back", before.equals(all(x)));
        });
    }

    private static void undoOfCounts() {
        String words = "the state, which consists of everything but the text and the save slots";
        Check.edge(EIGHTEEN, words, () -> {
            NameBenches x = of("Rp1200p0500s01g0100A.c0A.");
            String before = all(x);
            x.years(1);
            states(x, "handed on", HANDED_ON, NEW);
            x.undo();
            Check.that("a name that is handed on is taken back", before.equals(all(x)));
            x.give(0, 1, 2, ZZ);
            Check.same("its number is free again", x.nameOf(1, 1), ZZ);
            Check.same("nothing of it is left", x.nameOf(1, 4) + x.nameOf(1, 6) + x.nameOf(1, 7), 0);
        });
    }

    /** Person 2, a brother on bench 1, was mixed up and lent a name; nothing of that is left. */
    private static NameBenches undonePerson() {
        NameBenches x = of("Rp1000p1000g0001A.");
        x.person(20, 0, 1);
        x.call(1, 1, A);
        x.give(0, 2, 1, B);
        x.call(0, 1, B);
        for (int i = 3; i >= 0; i--) {
            Check.same("undo", x.undo(), i);
        }
        return x;
    }

    private static void undonePersonIsGone() {
        String words = "Takes back the last action that is remembered.";
        Check.edge(EIGHTEEN, words, () -> Check.fails("the person", BOUNDS, () -> undonePerson().personOf(2, 0)));
        Check.edge(EIGHTEEN, words, () -> Check.fails("the name", BOUNDS, () -> undonePerson().nameOf(1, 0)));
        Check.edge(EIGHTEEN, words, () -> Check.same("mixed", undonePerson().mixed(), NONE));
        Check.edge(EIGHTEEN, words, () -> Check.same("brothers", undonePerson().personOf(0, 4), 1));
        Check.edge(EIGHTEEN, words, () -> Check.same("meant, person by person", undonePerson().meant(1, 1, A, 0), NONE));
        Check.edge(EIGHTEEN, words, () -> Check.same("meant, by the names", undonePerson().meant(1, 1, A, 1), NONE));
        Check.edge(EIGHTEEN, words, () -> {
            NameBenches x = undonePerson();
            x.person(30, 0, 2);
            Check.same("the next one was never called so", x.personOf(2, 7), 0);
            Check.same("and lent no name", x.personOf(2, 8), 0);
        });
    }

    /** Name 1, B of person 2 on bench 1, was used until it stuck, and is taken back. */
    private static NameBenches undoneName() {
        NameBenches x = of("Rp1000p1000p1001s01g0001A.");
        x.give(0, 2, 1, B);
        x.call(1, 1, B);
        x.undo();
        x.undo();
        return x;
    }

    private static void undoneNameIsGone() {
        String words = "Takes back the last action that is remembered.";
        Check.edge(EIGHTEEN, words, () -> abouts(undoneName(), "undone", 3, 1, 1, 0, 0, 0, 0, 0, 0));
        Check.edge(EIGHTEEN, words, () -> Check.same("roll", undoneName().roll(1), NONE));
        Check.edge(EIGHTEEN, words, () -> Check.same("names of its bearer", undoneName().personOf(2, 3), 0));
        Check.edge(EIGHTEEN, words, () -> Check.same("names of its giver", undoneName().personOf(0, 5), 1));
        Check.edge(EIGHTEEN, words, () -> Check.same("that were sticking", undoneName().personOf(0, 6), 0));
        Check.edge(EIGHTEEN, words, () -> Check.same("meant, person by person", undoneName().meant(1, 1, B, 0), NONE));
        Check.edge(EIGHTEEN, words, () -> Check.same("meant, by the names", undoneName().meant(1, 1, B, 1), NONE));
        Check.edge(EIGHTEEN, words, () -> Check.same("why", undoneName().why(0, 2, 1, B), 0));
        Check.edge(EIGHTEEN, words, () -> Check.same("bestName", undoneName().bestName(0, 2, 1), B));
        Check.edge(EIGHTEEN, words, () -> Check.fails("endsIn", BOUNDS, () -> undoneName().endsIn(1)));
        Check.edge(EIGHTEEN, words, () -> Check.same("years", undoneName().years(9), 1));
        Check.edge(EIGHTEEN, words, () -> {
            NameBenches x = of("Rp1000p1001g0001A.");
            x.give(1, 0, 1, A);
            x.undo();
            Check.same("it keeps nobody from its bench", x.sit(1, 0), 1);
        });
        Check.edge(EIGHTEEN, words, () -> {
            NameBenches x = of("Rp1000p1001g0100A.");
            x.give(0, 1, 1, A);
            x.undo();
            Check.same("nor its bearer from another", x.sit(1, 0), 1);
        });
    }

    private static void undoOfUndo() {
        String words = "(undo is none)";
        Check.edge(EIGHTEEN, words, () -> {
            NameBenches x = new NameBenches();
            x.set(0, 1);
            x.set(0, 2);
            Check.same("undo", x.undo(), 1);
            Check.same("undo of the one before", x.undo(), 0);
            Check.same("the first setting", x.about(12), 3);
            Check.fails("no more", STATE, x::undo);
        });
    }

    // ---- ACTIONS AND UNDO

    /** Each action is a year, so that the year tells which of the states it is. */
    private static NameBenches actions(int many) {
        NameBenches x = new NameBenches();
        for (int i = 1; i <= many; i++) {
            x.years(1);
        }
        return x;
    }

    private static void fourteenStates() {
        String most = "At most 14 states are remembered";
        String oldest = "when one more is remembered, the oldest one is forgotten";
        for (int many : new int[] {1, 13, 14, 15, 16, 27, 28, 29, 42, 100}) {
            Check.edge(EIGHTEEN, many <= 14 ? most : oldest, () -> {
                NameBenches x = actions(many);
                int remembered = Math.min(many, 14);
                for (int i = 1; i <= remembered; i++) {
                    Check.same("undo " + i + " behind " + many, x.undo(), remembered - i);
                    Check.same("the year then", x.about(7), many - i);
                }
                Check.fails("an undo too many", STATE, x::undo);
                Check.same("the year still", x.about(7), many - remembered);
            });
        }
        Check.edge(EIGHTEEN, oldest, () -> {
            NameBenches x = actions(20);
            for (int i = 0; i < 10; i++) {
                x.undo();
            }
            years(x, 9 * 12);
            Check.same("the year", x.about(7), 118);
            for (int i = 13; i >= 0; i--) {
                Check.same("undo behind undos", x.undo(), i);
            }
            Check.same("the year of the oldest one that is remembered", x.about(7), 8);
            Check.fails("no more", STATE, x::undo);
        });
    }

    private static void nothingDifferent() {
        String words = "Each call of one of them that does not throw an exception is an action, "
            + "also if nothing becomes different";
        isAction(words, "the same setting", x -> x.set(0, 2));
        isAction(words, "the same bench", x -> x.sit(0, 0));
        isAction(words, "a refused name", x -> x.give(0, 0, 1, A));
        isAction(words, "a call of nobody", x -> x.call(3, 1, A));
        isAction(words, "a mix", x -> x.call(0, 1, A));
        isAction(words, "a year", x -> x.years(1));
        isAction(words, "a person", x -> x.person(0, 0, 0));
    }

    private static void isAction(String words, String what, Consumer<NameBenches> action) {
        Check.edge(EIGHTEEN, words, () -> {
            NameBenches x = busy();
            action.accept(x);
            Check.same(what + " is remembered", x.undo(), 3);
        });
    }

    private static void thrownIsNoAction() {
        String words = "Each call of one of them that does not throw an exception is an action";
        isNoAction(words, "person", x -> x.person(100, 0, 0));
        isNoAction(words, "sit", x -> x.sit(0, 4));
        isNoAction(words, "give", x -> x.give(0, 3, 1, A));
        isNoAction(words, "give", x -> x.give(0, 1, 1, 26));
        isNoAction(words, "call", x -> x.call(4, 1, A));
        isNoAction(words, "call", x -> x.call(0, 1, 26));
        isNoAction(words, "years", x -> x.years(10));
        isNoAction(words, "set", x -> x.set(0, 0));
    }

    private static void isNoAction(String words, String what, Consumer<NameBenches> call) {
        Check.edge(EIGHTEEN, words, () -> {
            NameBenches x = busy();
            try {
                call.accept(x);
                Check.that(what + " throws", false);
            } catch (IllegalArgumentException | IndexOutOfBoundsException e) {
                Check.same(what + " is not remembered", x.undo(), 2);
            }
        });
    }

    private static void textAndSlotsStay() {
        String words = "the state, which consists of everything but the text and the save slots";
        Check.edge(EIGHTEEN, words, () -> {
            NameBenches x = new NameBenches();
            x.append('R');
            x.set(0, 9);
            x.append('y');
            x.undo();
            Check.same("the text", x.errorPosition(), 2);
            x.set(0, 9);
            x.clearText();
            x.undo();
            Check.same("an emptied text", x.clearText(), 0);
        });
        Check.edge(EIGHTEEN, words, () -> {
            NameBenches x = new NameBenches();
            x.set(0, 9);
            x.save(1);
            x.undo();
            Check.same("the slot is not emptied", x.restore(1), 0);
            Check.same("and keeps what was saved", x.about(12), 9);
        });
    }
}
