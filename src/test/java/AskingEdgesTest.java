/** Promises 6 to 11: each sentence that names an edge has a test of its own. */
public final class AskingEdgesTest extends TestBase {
    private static final String SIX = "Promise 6, about";
    private static final String SEVEN = "Promise 7, personOf";
    private static final String EIGHT = "Promise 8, nameOf";
    private static final String NINE = "Promise 9, letter";
    private static final String TEN = "Promise 10, roll";
    private static final String ELEVEN = "Promise 11, meant";

    public static void main(String[] args) {
        aboutRange();
        aboutSoFar();
        aboutCounts();
        personOfRange();
        personOfNow();
        personOfSoFar();
        nameOfRange();
        nameOfEnded();
        letter();
        roll();
        meantRange();
        meantWays();
        askingIsNoAction();
        Check.end();
    }

    /** Names 0 and 1 stuck, with 1 and 2 uses; name 2, ABCD of person 1, had none; all of them are forgotten. */
    private static NameBenches ended() {
        NameBenches x = of("Rp2000p2000s01s12s28g0100A.g0001B.g0001ABCD.c0A.c0B.c0B.y2");
        Check.same("alive", x.about(2) + x.about(3), 0);
        return x;
    }

    // ---- Promise 6

    private static void aboutRange() {
        String words = "Throws `IllegalArgumentException` if what is not 0 to 14";
        Check.edge(SIX, words, () -> Check.same("0", of("Rp1000").about(0), 1));
        Check.edge(SIX, words, () -> Check.same("14", of("Rs29").about(14), 9));
        for (int bad : new int[] {-1, 15, LEAST, MOST}) {
            Check.edge(SIX, words, () -> Check.fails("about " + bad, ARGUMENT, () -> busy().about(bad)));
        }
    }

    private static void aboutSoFar() {
        Check.edge(SIX, "2 to 6: the names with the state 0 to 4", () -> abouts(ended(), "ended", 2, 3, 0, 0, 3, 0, 0));
        Check.edge(SIX, "2 to 6: the names with the state 0 to 4",
            () -> abouts(of("Rp1200p0500s01g0100A.c0A.g0100B.y1"), "outgrown and handed on", 2, 3, 1, 0, 0, 1, 1));
        Check.edge(SIX, "12 to 14: the settings 0 to 2", () -> {
            NameBenches x = of("Rs01s15s20");
            Check.same("setting 0", x.about(12), 1);
            Check.same("setting 1", x.about(13), 5);
            Check.same("setting 2", x.about(14), 0);
        });
        Check.edge(SIX, "1: the names so far", () -> Check.same("when none is alive", ended().about(1), 3));
        Check.edge(SIX, "8: the uses of all names so far, together",
            () -> Check.same("when none is alive", ended().about(8), 3));
        Check.edge(SIX, "9: the mixes so far", () -> {
            NameBenches x = of("Rp1000p1001g0001A.c0A.c0A.y5");
            Check.same("when no name is alive", x.about(9), 2);
        });
        Check.edge(SIX, "7: the year", () -> {
            NameBenches x = new NameBenches();
            years(x, 999);
            Check.same("the last one", x.about(7), 999);
        });
        Check.edge(SIX, "0: the people", () -> Check.same("12", of("R" + "p1000".repeat(12)).about(0), 12));
    }

    private static void aboutCounts() {
        String nobody = "10: the calls so far that meant nobody";
        Check.edge(SIX, nobody, () -> {
            NameBenches x = of("Rp1000p1001p1002g0001A.");
            x.call(3, 1, A);
            Check.same("nobody", x.about(10), 1);
            x.call(1, 1, A);
            x.call(0, 1, A);
            Check.same("somebody", x.about(10), 1);
        });
        Check.edge(SIX, nobody, () -> {
            NameBenches x = of("Rp1000");
            x.meant(0, 1, A, 0);
            x.meant(0, 1, A, 1);
            Check.same("meant is no call", x.about(10), 0);
        });
        Check.edge(SIX, nobody, () -> {
            NameBenches x = of("Rp1000");
            Check.fails("call", BOUNDS, () -> x.call(4, 1, A));
            Check.fails("call", ARGUMENT, () -> x.call(0, 1, 26));
            Check.same("calls that throw", x.about(10), 0);
        });
        String refused = "11: how often give() was refused so far";
        Check.edge(SIX, refused, () -> {
            NameBenches x = of("Rp1000p1000p1011");
            x.give(0, 0, 1, A);
            x.give(0, 2, 1, A);
            Check.same("refused", x.about(11), 2);
            x.give(0, 1, 1, A);
            Check.same("given", x.about(11), 2);
        });
        Check.edge(SIX, refused, () -> {
            NameBenches x = of("Rp1000");
            x.why(0, 0, 1, A);
            x.runScript(1, 100000L);
            Check.same("why and a script give nothing", x.about(11), 0);
        });
        Check.edge(SIX, refused, () -> {
            NameBenches x = of("Rp1000");
            Check.fails("give", BOUNDS, () -> x.give(0, 1, 1, A));
            Check.fails("give", ARGUMENT, () -> x.give(0, 0, 1, 26));
            Check.same("a give that throws is not refused", x.about(11), 0);
        });
    }

    // ---- Promise 7

    private static void personOfRange() {
        String nobody = "Throws `IndexOutOfBoundsException` if there is no such person";
        Check.edge(SEVEN, nobody, () -> Check.fails("of none", BOUNDS, () -> new NameBenches().personOf(0, 0)));
        Check.edge(SEVEN, nobody, () -> Check.same("the last one", busy().personOf(2, 1), 1));
        Check.edge(SEVEN, nobody, () -> Check.fails("behind the last", BOUNDS, () -> busy().personOf(3, 0)));
        Check.edge(SEVEN, nobody, () -> {
            NameBenches x = of("R" + "p1000".repeat(11) + "p1123");
            Check.same("the 12th", x.personOf(11, 2), 3);
            Check.fails("a 13th", BOUNDS, () -> x.personOf(12, 2));
        });
        for (int bad : new int[] {-1, LEAST, MOST}) {
            Check.edge(SEVEN, nobody, () -> Check.fails("person " + bad, BOUNDS, () -> busy().personOf(bad, 0)));
        }
        String what = "Throws `IllegalArgumentException` if what is not 0 to 8";
        Check.edge(SEVEN, what, () -> Check.same("0", busy().personOf(1, 0), 9));
        Check.edge(SEVEN, what, () -> Check.same("8", of("Rp1000p1001g0001A.c0A.").personOf(1, 8), 1));
        for (int bad : new int[] {-1, 9, LEAST, MOST}) {
            Check.edge(SEVEN, what, () -> Check.fails("what " + bad, ARGUMENT, () -> busy().personOf(0, bad)));
        }
    }

    private static void personOfNow() {
        String alive = "3: the names that are alive, how many";
        Check.edge(SEVEN, alive, () -> Check.same("none", of("Rp1000").personOf(0, 3), 0));
        Check.edge(SEVEN, alive, () -> Check.same("three", of("Rp1000p1000g0001A.g0001B.g0001C.").personOf(1, 3), 3));
        Check.edge(SEVEN, alive, () -> Check.same("ended ones", ended().personOf(1, 3), 0));
        Check.edge(SEVEN, alive, () -> Check.same("not those given", of("Rp1000p1000g0001A.").personOf(0, 3), 0));
        String brothers = "4: the brothers, how many";
        Check.edge(SEVEN, brothers, () -> Check.same("none", of("Rp1000p1010").personOf(0, 4), 0));
        Check.edge(SEVEN, brothers, () -> Check.same("eleven", of("R" + "p1000".repeat(12)).personOf(0, 4), 11));
    }

    private static void personOfSoFar() {
        String given = "5: the names given to others so far, handed on ones too";
        Check.edge(SEVEN, given, () -> Check.same("none", of("Rp1000p1000g0001A.").personOf(1, 5), 0));
        Check.edge(SEVEN, given, () -> Check.same("ended ones", ended().personOf(0, 5), 2));
        Check.edge(SEVEN, given, () -> {
            NameBenches x = of("Rp1200p0500s01g0100A.c0A.y1");
            Check.same("one that is handed on", x.personOf(0, 5), 1);
            Check.same("whoever gave the old one", x.personOf(1, 5), 1);
        });
        Check.edge(SEVEN, given, () -> {
            NameBenches x = of("Rp1000p1011");
            x.give(0, 1, 1, A);
            Check.same("not a refused one", x.personOf(0, 5), 0);
        });
        String stuck = "6: those of them that are or were sticking";
        Check.edge(SEVEN, stuck, () -> Check.same("not new ones", busy().personOf(2, 6), 0));
        Check.edge(SEVEN, stuck, () -> Check.same("are", of("Rp1000p1000s01g0001A.g0001B.c0A.").personOf(0, 6), 1));
        Check.edge(SEVEN, stuck, () -> Check.same("were", ended().personOf(0, 6), 1));
        Check.edge(SEVEN, stuck, () -> {
            NameBenches x = of("Rp1200p0500s01g0100A.c0A.y1");
            Check.same("the handed on one is new", x.personOf(0, 6), 0);
            Check.same("the old one was", x.personOf(1, 6), 1);
        });
        String called = "7: how often the person was called by a brother's name so far";
        Check.edge(SEVEN, called, () -> {
            NameBenches x = of("Rp1000p1001g0001A.c0A.c0A.c1A.y5");
            Check.same("when the name is not alive", x.personOf(0, 7), 2);
            Check.same("not by one's own", x.personOf(1, 7), 0);
        });
        String lent = "8: how often a brother was called by a name of this person so far";
        Check.edge(SEVEN, lent, () -> {
            NameBenches x = of("Rp1000p1001g0001A.c0A.c0A.c1A.y5");
            Check.same("when the name is not alive", x.personOf(1, 8), 2);
            Check.same("not the one called", x.personOf(0, 8), 0);
        });
    }

    // ---- Promise 8

    private static void nameOfRange() {
        String none = "Throws `IndexOutOfBoundsException` if there is no such name";
        Check.edge(EIGHT, none, () -> Check.fails("of none", BOUNDS, () -> new NameBenches().nameOf(0, 0)));
        Check.edge(EIGHT, none, () -> Check.same("the last one", busy().nameOf(2, 1), AB));
        Check.edge(EIGHT, none, () -> Check.fails("behind the last", BOUNDS, () -> busy().nameOf(3, 0)));
        Check.edge(EIGHT, none, () -> {
            NameBenches x = of("Rp0000p0000s11");
            for (int i = 0; i < 40; i++) {
                x.give(0, 1, 2, i);
                x.years(1);
            }
            Check.same("the 40th", x.nameOf(39, 1), 39);
            Check.fails("a 41st", BOUNDS, () -> x.nameOf(40, 1));
        });
        for (int bad : new int[] {-1, LEAST, MOST}) {
            Check.edge(EIGHT, none, () -> Check.fails("name " + bad, BOUNDS, () -> busy().nameOf(bad, 0)));
        }
        String what = "Throws `IllegalArgumentException` if what is not 0 to 7";
        Check.edge(EIGHT, what, () -> Check.same("0", busy().nameOf(2, 0), 2));
        Check.edge(EIGHT, what, () -> Check.same("7", of("Rp1000p1000s01g0001A.c0A.").nameOf(0, 7), 1));
        for (int bad : new int[] {-1, 8, LEAST, MOST}) {
            Check.edge(EIGHT, what, () -> Check.fails("what " + bad, ARGUMENT, () -> busy().nameOf(0, bad)));
        }
    }

    private static void nameOfEnded() {
        Check.edge(EIGHT, "3: whoever has or had it", () -> Check.same("had", ended().nameOf(2, 3), 1));
        Check.edge(EIGHT, "4: the uses", () -> Check.same("of one that ended", ended().nameOf(1, 4), 2));
        Check.edge(EIGHT, "4: the uses", () -> Check.same("none", ended().nameOf(2, 4), 0));
        Check.edge(EIGHT, "5: the year of the latest use (or when it was given)", () -> {
            NameBenches x = of("Rp1000p1000s29y4g0001A.g0001B.y2c0A.y1");
            Check.same("with a use", x.nameOf(0, 5), 6);
            Check.same("without one", x.nameOf(1, 5), 4);
        });
        Check.edge(EIGHT, "7: 1 if it is or was sticking, otherwise 0", () -> Check.same("was", ended().nameOf(0, 7), 1));
        Check.edge(EIGHT, "7: 1 if it is or was sticking, otherwise 0", () -> Check.same("never", ended().nameOf(2, 7), 0));
        Check.edge(EIGHT, "7: 1 if it is or was sticking, otherwise 0",
            () -> Check.same("used, but new", busy().nameOf(1, 7), 0));
    }

    // ---- Promise 9

    private static void letter() {
        String none = "NONE if it has not so many";
        for (String letters : new String[] {"Q", "QR", "QRS", "QRST"}) {
            int many = letters.length();
            Check.edge(NINE, "from 0 for the first letter", () -> {
                NameBenches x = of("Rp1000p1000g0001" + letters + ".");
                for (int place = 0; place < many; place++) {
                    Check.same("letter " + place + " of " + letters, x.letter(0, place), 16 + place);
                }
            });
            Check.edge(NINE, none,
                () -> Check.same(letters, of("Rp1000p1000g0001" + letters + ".").letter(0, many), NONE));
        }
        Check.edge(NINE, none, () -> Check.same("the farthest place", busy().letter(0, MOST), NONE));
        Check.edge(NINE, "0 for A to 25 for Z", () -> {
            NameBenches x = of("Rp1000p1000g0001AZ.");
            Check.same("A", x.letter(0, 0), 0);
            Check.same("Z", x.letter(0, 1), 25);
        });
        Check.edge(NINE, "Returns a letter of a name.", () -> Check.same("of one that ended", ended().letter(2, 3), 3));
        String words = "Throws `IndexOutOfBoundsException` if there is no such name, or place is negative";
        for (int bad : new int[] {-1, 3, LEAST, MOST}) {
            Check.edge(NINE, words, () -> Check.fails("name " + bad, BOUNDS, () -> busy().letter(bad, 0)));
        }
        Check.edge(NINE, words, () -> Check.fails("of none", BOUNDS, () -> new NameBenches().letter(0, 0)));
        Check.edge(NINE, words, () -> Check.fails("place -1", BOUNDS, () -> busy().letter(0, -1)));
        Check.edge(NINE, words, () -> Check.fails("the least place", BOUNDS, () -> busy().letter(0, LEAST)));
        Check.edge(NINE, words, () -> Check.fails("neither", BOUNDS, () -> busy().letter(3, -1)));
    }

    // ---- Promise 10

    private static void rollIs(String words, NameBenches x, int... due) {
        Check.edge(TEN, words, () -> {
            for (int rank = 0; rank < due.length; rank++) {
                Check.same("roll " + rank, x.roll(rank), due[rank]);
            }
            Check.same("not so many", x.roll(due.length), NONE);
        });
    }

    private static void roll() {
        rollIs("NONE if there are not so many", new NameBenches());
        rollIs("NONE if there are not so many", of("Rp1000p1000g0001A."), 0);
        Check.edge(TEN, "NONE if there are not so many", () -> Check.same("the farthest", busy().roll(MOST), NONE));
        rollIs("all names that are alive", ended());
        rollIs("all names that are alive", of("Rp0100p0100s12s01g0001A.g0001B.y1c0B.y1g0001C."), 1, 2);
        String dictionary = "by their letters as in a dictionary (a name ahead of one that begins with it)";
        rollIs(dictionary, of("Rp1000p1000g0001AAA.g0001AA.g0001A.g0100AAAA."), 2, 1, 0, 3);
        rollIs(dictionary, of("Rp1000p1000g0001B.g0001AZZZ.g0001AZ."), 2, 1, 0);
        rollIs(dictionary, of("Rp1000p1000g0001ZA.g0001Z.g0001YZZZ."), 2, 1, 0);
        rollIs(dictionary, of("Rp1000p1000g0001AB.g0001B.g0001AAZ."), 2, 0, 1);
        String like = "of like ones by numbers";
        rollIs(like, of("Rp1000p1001p1002g0201B.g0102B.g0100B.g0001A."), 3, 0, 1, 2);
        Check.edge(TEN, "Throws `IllegalArgumentException` if rank is negative",
            () -> Check.fails("-1", ARGUMENT, () -> busy().roll(-1)));
        Check.edge(TEN, "Throws `IllegalArgumentException` if rank is negative",
            () -> Check.fails("the least", ARGUMENT, () -> new NameBenches().roll(LEAST)));
    }

    // ---- Promise 11

    private static void meantRange() {
        String bench = "Throws `IndexOutOfBoundsException` if there is no such bench";
        Check.edge(ELEVEN, bench, () -> Check.same("bench 0", of("Rp1000p1000g0001A.").meant(0, 1, A, 0), 1));
        Check.edge(ELEVEN, bench, () -> Check.same("bench 3", of("Rp1003p1003g0001A.").meant(3, 1, A, 0), 1));
        for (int bad : new int[] {-1, 4, LEAST, MOST}) {
            Check.edge(ELEVEN, bench, () -> Check.fails("bench " + bad, BOUNDS, () -> busy().meant(bad, 1, A, 0)));
        }
        String other = "Throws `IllegalArgumentException` if another argument is out of range";
        for (int bad : new int[] {-1, 2, LEAST, MOST}) {
            Check.edge(ELEVEN, other, () -> Check.fails("way " + bad, ARGUMENT, () -> busy().meant(0, 1, A, bad)));
        }
        for (int bad : new int[] {-1, 0, 5, LEAST, MOST}) {
            Check.edge(ELEVEN, other, () -> Check.fails("many " + bad, ARGUMENT, () -> busy().meant(0, bad, A, 0)));
        }
        int[] codes = {26, 676, 17576, 456976};
        for (int i = 0; i < 4; i++) {
            int many = i + 1;
            int code = codes[i];
            Check.edge(ELEVEN, other, () -> Check.fails("too large", ARGUMENT, () -> busy().meant(0, many, code, 1)));
            Check.edge(ELEVEN, other, () -> Check.fails("too small", ARGUMENT, () -> busy().meant(0, many, -1, 1)));
            Check.edge(ELEVEN, other, () -> Check.same("the largest", busy().meant(0, many, code - 1, 1), NONE));
        }
    }

    private static void meantWays() {
        String same = "Returns the person (the same for both ways)";
        NameBenches x = of("Rp1010p1000p1011p1002p1003g0103A.g0002A.g0301BB.");
        for (int b = 0; b < 4; b++) {
            int bench = b;
            Check.edge(ELEVEN, same, () -> {
                Check.same("A", x.meant(bench, 1, A, 1), x.meant(bench, 1, A, 0));
                Check.same("BB", x.meant(bench, 2, 27, 1), x.meant(bench, 2, 27, 0));
            });
        }
        for (int way = 0; way < 2; way++) {
            int which = way;
            Check.edge(ELEVEN, "NONE if it means nobody",
                () -> Check.same("of no people", new NameBenches().meant(0, 1, A, which), NONE));
            Check.edge(ELEVEN, "NONE if it means nobody",
                () -> Check.same("an ended name", ended().meant(0, 1, A, which), NONE));
            Check.edge(ELEVEN, "Tells whom a call means.", () -> {
                NameBenches y = of("Rp1000p1000p1001g0001A.");
                Check.same("whoever has it", y.meant(0, 1, A, which), 1);
                Check.same("a brother", y.meant(1, 1, A, which), 2);
                Check.same("it is no use and no mix", y.about(8) + y.about(9), 0);
            });
        }
    }

    private static void askingIsNoAction() {
        String words = "The methods in the section \"actions\" change the state";
        Check.edge(SIX, words, () -> changesNothing("about", x -> x.about(8)));
        Check.edge(SEVEN, words, () -> changesNothing("personOf", x -> x.personOf(1, 3)));
        Check.edge(EIGHT, words, () -> changesNothing("nameOf", x -> x.nameOf(1, 6)));
        Check.edge(NINE, words, () -> changesNothing("letter", x -> x.letter(1, 0)));
        Check.edge(TEN, words, () -> changesNothing("roll", x -> x.roll(0)));
        Check.edge(ELEVEN, words, () -> changesNothing("meant", x -> x.meant(1, 1, A, 0)));
    }
}
