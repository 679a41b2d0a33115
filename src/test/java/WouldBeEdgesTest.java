import java.math.BigInteger;

/** Promises 19 to 25: each sentence that names an edge has a test of its own. */
public final class WouldBeEdgesTest extends TestBase {
    private static final String NINETEEN = "Promise 19, why";
    private static final String TWENTY = "Promise 20, endsIn";
    private static final String TWENTY_ONE = "Promise 21, bestName";
    private static final String TWENTY_TWO = "Promise 22, bestGiver";
    private static final String TWENTY_THREE = "Promise 23, mixed";
    private static final String TWENTY_FOUR = "Promise 24, runScript";
    private static final String TWENTY_FIVE = "Promise 25, simulate";
    private static final int GREATEST_Q = (1 << 27) - 1;

    public static void main(String[] args) {
        whyRange();
        whyAnswers();
        endsInRange();
        endsInOfEnded();
        endsInForgotten();
        endsInOutgrown();
        endsInDue();
        endsInBound();
        bestNameRange();
        bestNameOfNone();
        bestNameLeast();
        bestNameCounts();
        bestNameAllTaken();
        bestGiver();
        mixed();
        scriptRange();
        scriptDigits();
        scriptOrder();
        scriptGive();
        scriptCall();
        scriptYears();
        scriptSit();
        scriptSet();
        scriptNames();
        scriptMeans();
        scriptSticking();
        scriptState();
        scriptOtherGroups();
        scriptOnACopy();
        simulateRange();
        simulateOverflow();
        simulateOnePerson();
        simulateOneName();
        simulateOneCall();
        simulateYears();
        simulateAnswers();
        simulateLeavesOut();
        simulateOnACopy();
        Check.end();
    }

    // ---- Promise 19

    private static void whyRange() {
        String nobody = "Throws `IndexOutOfBoundsException` if there is no such person (either of them)";
        Check.edge(NINETEEN, nobody, () -> Check.fails("no people", BOUNDS, () -> new NameBenches().why(0, 0, 1, A)));
        for (int bad : new int[] {-1, 3, LEAST, MOST}) {
            Check.edge(NINETEEN, nobody, () -> Check.fails("giver " + bad, BOUNDS, () -> busy().why(bad, 0, 1, A)));
            Check.edge(NINETEEN, nobody, () -> Check.fails("to " + bad, BOUNDS, () -> busy().why(0, bad, 1, A)));
        }
        String other = "Throws `IllegalArgumentException` if another argument is out of range";
        for (int bad : new int[] {-1, 0, 5, LEAST, MOST}) {
            Check.edge(NINETEEN, other, () -> Check.fails("many " + bad, ARGUMENT, () -> busy().why(0, 1, bad, 0)));
        }
        int[] codes = {26, 676, 17576, 456976};
        for (int i = 0; i < 4; i++) {
            int many = i + 1;
            int code = codes[i];
            Check.edge(NINETEEN, other, () -> Check.fails("too large", ARGUMENT, () -> busy().why(1, 0, many, code)));
            Check.edge(NINETEEN, other, () -> Check.fails("too small", ARGUMENT, () -> busy().why(1, 0, many, -1)));
            Check.edge(NINETEEN, other, () -> Check.same("the largest", busy().why(1, 0, many, code - 1), 0));
        }
    }

    private static void whyAnswers() {
        Check.edge(NINETEEN, "Returns the reason; 0 if it can be.", () -> {
            NameBenches x = of("Rp1000p1000p1011g0001A.g0001B.g0001C.");
            Check.same("0", x.why(1, 0, 1, D), 0);
            Check.same("1", x.why(0, 0, 1, D), 1);
            Check.same("2", x.why(2, 0, 1, D), 2);
            Check.same("3", x.why(0, 1, 1, D), 3);
            Check.same("4", x.why(1, 0, 1, A), 4);
        });
        Check.edge(NINETEEN, "these and all following methods up to the save slots change nothing",
            () -> changesNothing("why", x -> x.why(1, 0, 1, Z)));
        Check.edge(NINETEEN, "these and all following methods up to the save slots change nothing",
            () -> changesNothing("why of a refused one", x -> x.why(0, 0, 1, Z)));
    }

    // ---- Promise 20

    private static void endsInRange() {
        String words = "Throws `IndexOutOfBoundsException` if there is no such name";
        Check.edge(TWENTY, words, () -> Check.fails("no names", BOUNDS, () -> new NameBenches().endsIn(0)));
        for (int bad : new int[] {-1, 3, LEAST, MOST}) {
            Check.edge(TWENTY, words, () -> Check.fails("name " + bad, BOUNDS, () -> busy().endsIn(bad)));
        }
        Check.edge(TWENTY, "these and all following methods up to the save slots change nothing",
            () -> changesNothing("endsIn", x -> x.endsIn(0)));
    }

    private static void endsInOfEnded() {
        String words = "0 if it is not alive now";
        Check.edge(TWENTY, words, () -> Check.same("forgotten", of("Rp0000p0000g0001A.y3").endsIn(0), 0));
        Check.edge(TWENTY, words, () -> Check.same("outgrown", of("Rp2000p2000g0001A.y1").endsIn(0), 0));
        Check.edge(TWENTY, words, () -> {
            NameBenches x = of("Rp1200p0500s01g0100A.c0A.y1");
            Check.same("handed on", x.endsIn(0), 0);
            Check.same("the new one", x.endsIn(1), 3);
        });
    }

    /** What it tells is what the years show: alive until a year before, and not then. */
    private static void ends(String words, String text, int due) {
        Check.edge(TWENTY, words, () -> {
            NameBenches x = of(text);
            for (int left = due; left > 0; left--) {
                Check.same(text + " with " + left + " years left", x.endsIn(0), left);
                Check.that("it is alive then", x.nameOf(0, 6) <= STICKING);
                x.years(1);
            }
            Check.that("it is not alive behind them", x.nameOf(0, 6) > STICKING);
            Check.same("none is left", x.endsIn(0), 0);
        });
    }

    private static void endsInForgotten() {
        String words = "Returns behind how many years";
        for (int setting = 1; setting <= 9; setting++) {
            ends(words, "Rp0000p0000s29s1" + setting + "g0001A.", setting);
        }
        ends("if it is not used any more", "Rp0000p0000s29s15g0001A.y3c0A.", 5);
        ends("if it is not used any more", "Rp0000p0000s29s15s01g0001A.c0A.y3", 2);
    }

    private static void endsInOutgrown() {
        String words = "Returns behind how many years";
        ends(words, "Rp1200p1200s19g0001A.", 1);
        ends(words, "Rp1100p1100s19g0001A.", 2);
        ends(words, "Rp0400p0400s19g0001A.", 9);
        ends(words, "Rp2200p2200s19g0001AB.", 3);
        ends(words, "Rp0000p0000s20g0001A.", 1);
        ends(words, "Rp1000p1000s13g0001A.", 3);
        ends(words, "Rp1000p1000s12g0001A.", 2);
        ends(words, "Rp1100p1100s13g0001A.", 2);
    }

    private static void endsInDue() {
        String words = "Tells when a name is not alive any more, if it is not used any more, and nothing else is done.";
        ends(words, "Rp0000p0000s29s19g0001A.y5s12", 1);
        ends(words, "Rp0000p0000s29s19g0001A.y5s15", 1);
        ends(words, "Rp0000p0000s29s19g0001A.y5s16", 1);
        ends(words, "Rp0000p0000s29s19g0001A.y5s17", 2);
        ends(words, "Rp5000p5000s14g0001A.", 1);
        ends(words, "Rp3000p3000s29s14g0001A.s20", 1);
    }

    private static void endsInBound() {
        String words = "(the bound of the year does not matter)";
        Check.edge(TWENTY, words, () -> {
            NameBenches x = new NameBenches();
            years(x, 999);
            x.set(1, 9);
            x.person(0, 0, 0);
            x.person(0, 0, 0);
            x.give(0, 1, 1, A);
            Check.same("in the last year", x.endsIn(0), 9);
        });
        Check.edge(TWENTY, words, () -> {
            NameBenches x = new NameBenches();
            years(x, 994);
            x.person(5, 0, 0);
            x.person(5, 0, 0);
            x.set(1, 9);
            x.give(0, 1, 1, A);
            Check.same("beyond the last year", x.endsIn(0), 8);
        });
    }

    // ---- Promise 21

    private static void bestNameRange() {
        String nobody = "Throws `IndexOutOfBoundsException` if there is no such person (either of them)";
        Check.edge(TWENTY_ONE, nobody, () -> Check.fails("no people", BOUNDS, () -> new NameBenches().bestName(0, 0, 1)));
        for (int bad : new int[] {-1, 3, LEAST, MOST}) {
            Check.edge(TWENTY_ONE, nobody, () -> Check.fails("giver " + bad, BOUNDS, () -> busy().bestName(bad, 0, 1)));
            Check.edge(TWENTY_ONE, nobody, () -> Check.fails("to " + bad, BOUNDS, () -> busy().bestName(0, bad, 1)));
        }
        String words = "Throws `IllegalArgumentException` if many is neither 1 nor 2";
        for (int bad : new int[] {-1, 0, 3, 4, LEAST, MOST}) {
            Check.edge(TWENTY_ONE, words, () -> Check.fails("many " + bad, ARGUMENT, () -> busy().bestName(0, 1, bad)));
        }
        Check.edge(TWENTY_ONE, "these and all following methods up to the save slots change nothing",
            () -> changesNothing("bestName", x -> x.bestName(0, 1, 2)));
    }

    private static void bestIs(String words, String text, int many, int due) {
        Check.edge(TWENTY_ONE, words, () -> Check.same("from 0 to 1 by " + text, of(text).bestName(0, 1, many), due));
    }

    private static void bestNameOfNone() {
        String words = "NONE if there is none";
        Check.edge(TWENTY_ONE, words, () -> Check.same("oneself", of("Rp1000").bestName(0, 0, 1), NONE));
        bestIs(words, "Rp1000p1011", 1, NONE);
        bestIs(words, "Rp1000p1011", 2, NONE);
        bestIs(words, "Rp1000p1000g0001A.g0001B.g0001C.", 1, NONE);
        bestIs("of the codes with which a name can be given", "Rp1000p1000g0001A.g0001B.g0001C.y3", 1, A);
        Check.edge(TWENTY_ONE, words, () -> {
            NameBenches x = of("Rp0000p0000s11");
            for (int i = 0; i < 39; i++) {
                x.give(0, 1, 1, A);
                x.years(1);
            }
            Check.same("39 names were given", x.bestName(0, 1, 1), A);
            x.give(0, 1, 1, A);
            x.years(1);
            Check.same("40 names were given", x.bestName(0, 1, 1), NONE);
        });
    }

    private static void bestNameLeast() {
        String words = "of several the least code";
        bestIs(words, "Rp1000p1000", 1, A);
        bestIs(words, "Rp1000p1000", 2, AA);
        bestIs(words, "Rp1000p1000g0001A.", 1, B);
        bestIs(words, "Rp1000p1000g0001A.", 2, 27);
        bestIs(words, "Rp1000p1000g0001AC.g0001BD.", 1, 4);
        bestIs(words, "Rp1000p1000g0001AC.g0001BD.", 2, 4 * 26 + 4);
        Check.edge(TWENTY_ONE, words, () -> Check.same("only Z is in none", allButZ().bestName(0, 1, 1), Z));
        Check.edge(TWENTY_ONE, words, () -> Check.same("ZZ too", allButZ().bestName(0, 1, 2), ZZ));
    }

    /** Names with all the letters but Z, of others than 0 and 1. */
    private static NameBenches allButZ() {
        return of("Rp0100p0100p0101p0102p0103g0002ABCD.g0002EFGH.g0002IJKL.g0003MNOP.g0003QRST.g0003UVWX.g0004Y.");
    }

    private static void bestNameCounts() {
        String alive = "the names that are alive and have that letter anywhere are counted";
        bestIs(alive, "Rp1000p1000g0001A.y3", 1, A);
        bestIs(alive, "Rp1000p1000p1003g0002A.", 1, B);
        bestIs(alive, "Rp1000p1000g0001ZYXA.", 1, B);
        bestIs(alive, "Rp1000p1000g0001BACD.", 1, 4);
        String twice = "(a letter that comes twice counts twice)";
        Check.edge(TWENTY_ONE, twice, () -> {
            NameBenches x = twiceFrom(A);
            x.give(9, 10, 2, ZZ);
            Check.same("AZ has two and one, AA would have two and two", x.bestName(9, 8, 2), 25);
        });
        Check.edge(TWENTY_ONE, twice, () -> {
            NameBenches x = twiceFrom(B);
            x.give(9, 10, 2, AA);
            Check.same("AB has one and two, BB would have two and two", x.bestName(9, 8, 2), AB);
        });
        Check.edge(TWENTY_ONE, "for each of its letters the names that are alive and have that letter anywhere are counted",
            () -> {
                NameBenches x = of("Rp0100p0100p0100p0100"
                    + "g0001ACDE.g0001BABB.g0001FGHI.g0002JKLM.g0002NOPQ.g0002RSTU.g0003VWXY.g0003Z.");
                Check.same("a name with three Bs is one name", x.bestName(1, 0, 1), B);
            });
    }

    /** 25 letters, from A or from B, are in two names each, on other benches than that of 8 to 11; one is in none. */
    private static NameBenches twiceFrom(int least) {
        NameBenches x = new NameBenches();
        for (int p = 0; p < 12; p++) {
            x.person(1, 0, p < 3 ? 1 : p < 8 ? 2 : 0);
        }
        int given = 0;
        for (int first = 0; first < 25; first += 4) {
            int many = Math.min(4, 25 - first);
            int code = 0;
            for (int i = 0; i < many; i++) {
                code = 26 * code + least + first + i;
            }
            Check.same("on bench 1", x.give(9, given / 3, many, code), 0);
            Check.same("on bench 2", x.give(9, 3 + given / 3, many, code), 0);
            given++;
        }
        int free = least == A ? Z : A;
        Check.same("one letter is in none", x.bestName(9, 8, 1), free);
        Check.same("nor is it twice", x.bestName(9, 8, 2), 27 * free);
        return x;
    }

    private static void bestNameAllTaken() {
        Check.edge(TWENTY_ONE, "of the codes with which a name can be given", () -> {
            NameBenches x = new NameBenches();
            for (int p = 0; p < 12; p++) {
                x.person(1, 0, 0);
            }
            for (int code = 0; code < 25; code++) {
                x.give(11, code / 3, 1, code);
            }
            Check.same("one letter is left", x.bestName(0, 10, 1), Z);
            x.give(0, 10, 1, Z);
            Check.same("none is left", x.bestName(0, 9, 1), NONE);
            Check.same("two letters are", x.bestName(0, 9, 2), AA);
        });
        Check.edge(TWENTY_ONE, "of the codes with which a name can be given", () -> {
            NameBenches x = allButZ();
            x.give(0, 1, 1, Z);
            Check.same("Z is taken, A is in one name too", x.bestName(1, 0, 1), A);
            x.sit(1, 3);
            Check.same("the bench is that of whoever would get it", x.bestName(0, 1, 1), A);
        });
    }

    // ---- Promise 22

    private static void giverIs(String words, String text, int due) {
        Check.edge(TWENTY_TWO, words, () -> Check.same(text, of(text).bestGiver(), due));
    }

    private static void bestGiver() {
        String none = "NONE if nobody gave any";
        giverIs(none, "R", NONE);
        giverIs(none, "Rp1000p1000", NONE);
        Check.edge(TWENTY_TWO, none, () -> {
            NameBenches x = of("Rp1000");
            x.give(0, 0, 1, A);
            Check.same("a refused one", x.bestGiver(), NONE);
        });
        String share = "the one with the greatest share of names that are or were sticking";
        giverIs(share, "Rp1000p1000g0100A.", 1);
        giverIs(share, "Rp0000p0000p0000s01g0001A.g0001B.g0102C.c0C.", 1);
        giverIs(share, "Rp0000p0000p0000s01g0001A.g0001B.g0001C.g0102D.g0102E.c0A.c0D.", 1);
        giverIs(share, "Rp0000p0000p0000s01g0001A.g0001B.g0001C.g0102D.g0102E.c0A.c0B.c0D.", 0);
        giverIs(share, "Rp0000p0000p0000s01g0001A.g0102B.c0B.y3", 1);
        giverIs(share, "Rp0000p0000p0000s01g0102A.g0102B.g0001C.c0C.", 0);
        Check.edge(TWENTY_TWO, share, () -> {
            NameBenches x = twoGivers(7, 3, 19, 8);
            Check.same("3 of 7 are more than 8 of 19, though both are 42 of 100", x.bestGiver(), 0);
        });
        Check.edge(TWENTY_TWO, share, () -> {
            NameBenches x = twoGivers(19, 8, 7, 3);
            Check.same("8 of 19 are less than 3 of 7, though both are 42 of 100", x.bestGiver(), 1);
        });
        String most = "of several the one who gave most";
        giverIs(most, "Rp0000p0000p0000g0001A.g0102B.g0102C.", 1);
        giverIs(most, "Rp0000p0000p0000s01g0001A.g0102B.g0102C.c0A.c0B.c0C.", 1);
        giverIs(most, "Rp0000p0000p0000s01g0001A.g0001B.g0102C.c0A.c0B.c0C.", 0);
        String lowest = "of several of those the lowest";
        giverIs(lowest, "Rp0000p0000p0000g0201A.g0102B.", 1);
        giverIs(lowest, "Rp0000p0000p0000s01g0201A.g0102B.c0A.c0B.", 1);
        giverIs("of those who gave any name", "Rp1200p0500p0500s01g0100A.c0A.y1", 1);
        Check.edge(TWENTY_TWO, "these and all following methods up to the save slots change nothing",
            () -> changesNothing("bestGiver", NameBenches::bestGiver));
    }

    /** Persons 0 and 1 gave so many names, of which so many are sticking: at most 26, all on one bench. */
    private static NameBenches twoGivers(int given, int stuck, int otherGiven, int otherStuck) {
        NameBenches x = of("Rs01" + "p1000".repeat(12));
        for (int code = 0; code < given + otherGiven; code++) {
            boolean isOther = code >= given;
            x.give(isOther ? 1 : 0, 2 + code / 3, 1, code);
            if (isOther ? code < given + otherStuck : code < stuck) {
                x.call(0, 1, code);
            }
        }
        Check.same("given by 0", x.personOf(0, 5), given);
        Check.same("stuck of 0", x.personOf(0, 6), stuck);
        Check.same("given by 1", x.personOf(1, 5), otherGiven);
        Check.same("stuck of 1", x.personOf(1, 6), otherStuck);
        return x;
    }

    // ---- Promise 23

    private static void mixedIs(String words, String text, int due) {
        Check.edge(TWENTY_THREE, words, () -> Check.same(text, of(text).mixed(), due));
    }

    private static void mixed() {
        String none = "NONE if nobody was";
        mixedIs(none, "R", NONE);
        mixedIs(none, "Rp1000p1001g0001A.", NONE);
        mixedIs(none, "Rp1000p1001g0001A.c1A.", NONE);
        String most = "Returns the one who was called by brothers' names most often";
        mixedIs(most, "Rp1000p1001g0001A.c0A.", 0);
        mixedIs(most, "Rp1000p1001p1002g0001A.c0A.c2A.c2A.", 2);
        mixedIs(most, "Rp1000p1001p1002g0001A.c0A.c0A.c2A.", 0);
        mixedIs(most, "Rp1000p1001p1002g0001A.c2A.y5", 2);
        mixedIs("of several the lowest", "Rp1000p1001p1002g0001A.c2A.c0A.", 0);
        Check.edge(TWENTY_THREE, "these and all following methods up to the save slots change nothing",
            () -> changesNothing("mixed", NameBenches::mixed));
    }

    // ---- Promise 24

    private static void script(String words, NameBenches x, int n, long script, int due) {
        Check.edge(TWENTY_FOUR, words, () -> Check.same("runScript " + n + " " + script, x.runScript(n, script), due));
    }

    private static void good(String words, NameBenches x, int... groups) {
        for (int group : groups) {
            script(words, x, 1, group, NONE);
        }
    }

    private static void bad(String words, NameBenches x, int... groups) {
        for (int group : groups) {
            script(words, x, 1, group, 0);
        }
    }

    private static void scriptRange() {
        String words = "Throws `IllegalArgumentException` if n is out of range, "
            + "or if script is negative or has more than 6 * n digits";
        for (int n : new int[] {0, 4, -1, LEAST, MOST}) {
            Check.edge(TWENTY_FOUR, words, () -> Check.fails("n " + n, ARGUMENT, () -> busy().runScript(n, 0L)));
        }
        for (long negative : new long[] {-1L, -999999L, Long.MIN_VALUE}) {
            for (int n = 1; n <= 3; n++) {
                int many = n;
                Check.edge(TWENTY_FOUR, words,
                    () -> Check.fails("script " + negative, ARGUMENT, () -> busy().runScript(many, negative)));
            }
        }
        long digits = 1;
        for (int n = 1; n <= 3; n++) {
            digits *= 1000000L;
            long tooMany = digits;
            int many = n;
            Check.edge(TWENTY_FOUR, words,
                () -> Check.fails("a digit too many", ARGUMENT, () -> busy().runScript(many, tooMany)));
            Check.edge(TWENTY_FOUR, words,
                () -> Check.fails("the most", ARGUMENT, () -> busy().runScript(many, Long.MAX_VALUE)));
            script("a number of at most 6 * n digits (0 or more)", busy(), n, digits - 1, 0);
            script("a number of at most 6 * n digits (0 or more)", busy(), n, 0L, 0);
        }
    }

    private static void scriptDigits() {
        String words = "the first command is the highest group of the number (with zeros before it, if it has fewer digits)";
        NameBenches x = busy();
        script(words, x, 2, 800000L, 0);
        script(words, x, 1, 800000L, NONE);
        script(words, x, 3, 800000_800000L, 0);
        script(words, x, 2, 800000_800000L, NONE);
        script(words, x, 3, 800000_800000_800000L, NONE);
        script(words, x, 1, 80000L, 0);
    }

    private static void scriptOrder() {
        String words = "Returns the index, from 0, of the first command that fails; NONE if all succeed.";
        NameBenches x = busy();
        script(words, x, 1, 999999L, 0);
        script(words, x, 2, 800000_999999L, 1);
        script(words, x, 3, 800000_800000_999999L, 2);
        script(words, x, 3, 800000_999999_999999L, 1);
        script(words, x, 3, 999999_800000_800000L, 0);
        // the name sticks by its second use only, and the script goes on from command to command
        NameBenches y = of("Rp1000p1000s02g0001A.");
        script(words, y, 3, 200000_200000_800001L, NONE);
        script(words, y, 2, 200000_800001L, 1);
    }

    private static void scriptGive() {
        String words = "1 g p x x 0: give(g, p, 1, xx); succeeds if it is given.";
        NameBenches x = of("R" + "p1000".repeat(10) + "p1011g0001A.");
        good(words, x, 101010, 190250, 109250);
        bad(words, x, 100010, 101000, 101011, 101019);
        bad("commands with people, benches, letters or names that do not exist fail", x, 101260, 101990);
        NameBenches y = of("Rp1000p1000p1011");
        good(words, y, 101000);
        bad(words, y, 102000);
        bad("commands with people, benches, letters or names that do not exist fail", y, 103000, 130000, 190000, 109000);
    }

    private static void scriptCall() {
        String words = "2 b x x 0 0: call(b, 1, xx); succeeds if it means somebody.";
        NameBenches x = of("Rp1000p1003g0001Z.g0100A.");
        good(words, x, 202500, 232500, 200000, 230000);
        bad(words, x, 200100, 212500, 202501, 202510);
        bad("commands with people, benches, letters or names that do not exist fail", x, 242500, 292500, 202600, 209900);
    }

    private static void scriptYears() {
        String words = "3 0 0 0 0 n: years(n).";
        NameBenches x = new NameBenches();
        good(words, x, 300001, 300009);
        bad(words, x, 300000, 310001, 301001, 300101, 300011);
        NameBenches y = new NameBenches();
        years(y, 995);
        good("The commands 1 to 5 fail if the method would throw an exception", y, 300004);
        bad("The commands 1 to 5 fail if the method would throw an exception", y, 300005);
    }

    private static void scriptSit() {
        String words = "4 p 0 0 0 b: sit(p, b).";
        NameBenches x = of("Rp1000p1001g0001A.g0100A.");
        good(words, x, 400000, 400003, 410001, 410002);
        bad(words, x, 401003, 400103, 400013);
        bad("commands with people, benches, letters or names that do not exist fail", x, 400004, 400009, 420000, 490000);
        bad("The commands 1 to 5 fail if the method would throw an exception", x, 400001, 410000);
    }

    private static void scriptSet() {
        String words = "5 w 0 0 0 v: set(w, v).";
        NameBenches x = new NameBenches();
        good(words, x, 500001, 500009, 510001, 510009, 520000, 520009);
        bad(words, x, 501001, 500101, 500011);
        bad("The commands 1 to 5 fail if the method would throw an exception", x, 500000, 510000, 530001, 590001);
    }

    private static void scriptNames() {
        String words = "6 p 0 0 0 n: succeeds if the person p has at least n names that are alive.";
        NameBenches x = of("Rp1000p1000g0001A.g0001B.g0001C.");
        good(words, x, 600000, 610000, 610001, 610003);
        bad(words, x, 600001, 610004, 610009, 611001, 610101, 610011);
        bad("commands with people, benches, letters or names that do not exist fail", x, 620000, 690000);
        bad(words, of("Rp1000p1000g0001A.y3"), 610001);
    }

    private static void scriptMeans() {
        String words = "7 b x x p 0: succeeds if a call on the bench b by the letter xx means the person p.";
        NameBenches x = of("Rp1003p1002g0001Z.");
        good(words, x, 722510, 732500);
        bad(words, x, 722500, 732510, 720010, 722511, 712500);
        bad("commands with people, benches, letters or names that do not exist fail", x, 722520, 722590, 742500, 722600, 702590);
        bad("commands with people, benches, letters or names that do not exist fail", new NameBenches(), 700000);
    }

    private static void scriptSticking() {
        String words = "8 0 0 0 n n: succeeds if at least nn names are sticking.";
        NameBenches x = of("Rp1000p1000s01g0001A.g0001B.g0001C.c0A.c0B.");
        good(words, x, 800000, 800001, 800002);
        bad(words, x, 800003, 800010, 800099, 810001, 801001, 800101);
        bad(words, of("Rp1000p1000s01g0001A.c0A.y3"), 800001);
    }

    private static void scriptState() {
        String words = "9 n n 0 0 s: succeeds if the state of the name nn is s.";
        NameBenches x = of("Rp1100p0500p1111p0511s01g0100A.g0302B.g0203C.c0A.y3g0203D.c1D.");
        good(words, x, 900004, 901003, 902002, 903000, 904001);
        bad(words, x, 900000, 901001, 902003, 903001, 904000, 900005, 900009, 900014, 900104);
        bad("commands with people, benches, letters or names that do not exist fail", x, 905000, 940000, 999000);
        bad("commands with people, benches, letters or names that do not exist fail", new NameBenches(), 900000);
        bad(words, of("Rp1000p1000g0001A."), 901000, 910000, 999000);
        NameBenches y = of("Rp0000p0000s11");
        for (int i = 0; i < 39; i++) {
            y.give(0, 1, 1, A);
            y.years(1);
        }
        good(words, y, 938002);
        bad(words, y, 939000);
        y.give(0, 1, 1, A);
        good(words, y, 939000);
        bad(words, y, 940000);
    }

    private static void scriptOtherGroups() {
        String words = "and so does any other group (also one with another digit where a 0 is written)";
        NameBenches x = of("Rp1000p1000g0001A.");
        bad(words, x, 0, 1, 99999, 99, 12345);
        int[] good = {101010, 200000, 300001, 400003, 500001, 610001, 700010, 800000, 900000};
        int[][] zeros = {{5}, {4, 5}, {1, 2, 3, 4}, {2, 3, 4}, {2, 3, 4}, {2, 3, 4}, {5}, {1, 2, 3}, {3, 4}};
        int[] places = {100000, 10000, 1000, 100, 10, 1};
        for (int i = 0; i < good.length; i++) {
            good(words, x, good[i]);
            for (int place : zeros[i]) {
                for (int digit = 1; digit <= 9; digit++) {
                    bad(words, x, good[i] + digit * places[place]);
                }
            }
        }
    }

    private static void scriptOnACopy() {
        String words = "Runs a script on a copy of the state.";
        Check.edge(TWENTY_FOUR, words, () -> changesNothing("commands 1 to 3", x -> x.runScript(3, 101250_210000_300009L)));
        Check.edge(TWENTY_FOUR, words, () -> changesNothing("commands 4 and 5", x -> x.runScript(2, 400003_510001L)));
        Check.edge(TWENTY_FOUR, words, () -> changesNothing("one that fails", x -> x.runScript(2, 300009_999999L)));
        Check.edge(TWENTY_FOUR, words, () -> {
            NameBenches x = of("Rp1000p1000");
            Check.same("given in it", x.runScript(2, 101000_610001L), NONE);
            Check.same("not behind it", x.runScript(1, 610001L), 0);
        });
    }

    // ---- Promise 25

    private static void simulateRange() {
        String words = "Throws `IllegalArgumentException` if m is out of range";
        for (int bad : new int[] {0, 61, -1, LEAST, MOST}) {
            Check.edge(TWENTY_FIVE, words, () -> Check.fails("m " + bad, ARGUMENT, () -> busy().simulate(1, bad)));
        }
        for (int good : new int[] {1, 2, 59, 60}) {
            Check.edge(TWENTY_FIVE, "number of turns, 1 to 60",
                () -> Check.same("m " + good, busy().simulate(4, good), byHand(busy(), 4, good)));
        }
    }

    /** The turns with the public calls; x is a number of any size of which 64 bits are kept. */
    private static int byHand(NameBenches object, long seed, int m) {
        BigInteger word = BigInteger.ONE.shiftLeft(64);
        BigInteger x = BigInteger.valueOf(seed);
        int mixes = object.about(9);
        for (int i = 0; i < m; i++) {
            x = x.multiply(BigInteger.valueOf(6364136223846793005L)).add(BigInteger.valueOf(1442695040888963407L)).mod(word);
            int r = x.shiftRight(33).intValueExact();
            try {
                turn(object, r % 16, r / 16);
            } catch (IllegalArgumentException | IllegalStateException | IndexOutOfBoundsException e) {
                continue;
            }
        }
        return 10000 * (object.about(2) + object.about(3)) + 100 * object.about(0) + object.about(9) - mixes;
    }

    private static void turn(NameBenches object, int kind, int q) {
        if (kind <= 1) {
            object.person(q % 60, q / 64 % 6, q / 512 % 4);
        } else if (kind <= 5) {
            object.give(q % 12, q / 16 % 12, 1, q / 256 % 8);
        } else if (kind <= 11) {
            object.call(q % 4, 1, q / 4 % 8);
        } else if (kind == 12) {
            object.sit(q % 12, q / 16 % 4);
        } else if (kind == 13) {
            object.set(q % 3, 1 + q / 4 % 4);
        } else {
            object.years(1 + q % 2);
        }
    }

    private static void simulated(String words, String text, long seed, int m) {
        Check.edge(TWENTY_FIVE, words,
            () -> Check.same("simulate " + seed + " " + m, of(text).simulate(seed, m), byHand(of(text), seed, m)));
    }

    private static void simulateOverflow() {
        String words = "(with long overflow)";
        String text = "Rp0100p0101p0110p0111g0001A.g0100B.g0203C.g0302D.";
        long[] seeds = {0, 1, -1, Long.MAX_VALUE, Long.MIN_VALUE, Long.MAX_VALUE - 1, Long.MIN_VALUE + 1,
            1L << 33, -(1L << 33), 1L << 62, 6364136223846793005L};
        for (long seed : seeds) {
            simulated(words, text, seed, 1);
            simulated(words, text, seed, 7);
            simulated(words, text, seed, 60);
        }
    }

    /** The seed of which the first turn has this r. */
    private static long seedOf(int kind, int q) {
        BigInteger word = BigInteger.ONE.shiftLeft(64);
        BigInteger x = BigInteger.valueOf(16L * q + kind).shiftLeft(33);
        BigInteger back = BigInteger.valueOf(6364136223846793005L).modInverse(word);
        return x.subtract(BigInteger.valueOf(1442695040888963407L)).multiply(back).mod(word).longValue();
    }

    private static void turnIs(String words, String text, int kind, int q, int due) {
        Check.edge(TWENTY_FIVE, words,
            () -> Check.same("a turn of kind " + kind + " with q " + q, of(text).simulate(seedOf(kind, q), 1), due));
    }

    private static void simulateOnePerson() {
        String words = "0 and 1: person(q % 60, q / 64 % 6, q / 512 % 4)";
        for (int kind = 0; kind < 16; kind++) {
            turnIs(words, "R", kind, 0, kind <= 1 ? 100 : 0);
            turnIs("r = (int) (x >>> 33) is computed", "R", kind, GREATEST_Q, kind <= 1 ? 100 : 0);
        }
        turnIs("What would throw an exception is left out.", "R" + "p1000".repeat(12), 0, 0, 1200);
        turnIs(words, "R" + "p1000".repeat(11), 1, 0, 1200);
    }

    private static void simulateOneName() {
        String words = "2 to 5: give(q % 12, q / 16 % 12, 1, q / 256 % 8)";
        String twelve = "R" + "p1000".repeat(12);
        for (int kind = 0; kind < 16; kind++) {
            turnIs(words, twelve, kind, 16, kind >= 2 && kind <= 5 ? 11200 : 1200);
        }
        turnIs(words, twelve, 2, 0, 1200);
        turnIs(words, twelve, 2, 11 * 16 + 11, 11200);
        turnIs(words, "Rp1000p1000", 2, 31, 200);
        turnIs(words, "Rp1000p1000", 2, 24, 10200);
        turnIs("All divisions are rounded down.", "Rp1000p1000", 2, 12, 200);
        // from 0 to 1, the letters A, B, H, and A again
        turnIs("All divisions are rounded down.", "Rp1000p1000g0100A.", 2, 216, 10200);
        turnIs("All divisions are rounded down.", "Rp1000p1000g0100B.", 2, 216, 20200);
        turnIs(words, "Rp1000p1000g0100B.", 2, 408, 10200);
        turnIs(words, "Rp1000p1000g0100A.", 2, 408, 20200);
        turnIs(words, "Rp1000p1000g0100H.", 2, 1944, 10200);
        turnIs(words, "Rp1000p1000g0100A.", 2, 1944, 20200);
        turnIs(words, "Rp1000p1000g0100A.", 2, 2136, 10200);
        turnIs(words, "Rp1000p1000g0100B.", 2, 2136, 20200);
    }

    private static void simulateOneCall() {
        String words = "6 to 11: call(q % 4, 1, q / 4 % 8)";
        for (int kind = 6; kind < 16; kind++) {
            turnIs(words, "Rp1000p1001g0001A.", kind, 0, kind <= 11 ? 10201 : 10200);
        }
        turnIs(words, "Rp1000p1001g0001A.", 6, 1, 10200);
        turnIs(words, "Rp1000p1001g0001A.", 6, 2, 10200);
        turnIs(words, "Rp1003p1001g0001A.", 6, 3, 10201);
        turnIs(words, "Rp1000p1001g0001B.", 6, 4, 10201);
        turnIs(words, "Rp1000p1001g0001H.", 6, 28, 10201);
        turnIs(words, "Rp1000p1001g0001A.", 6, 32, 10201);
        turnIs("All divisions are rounded down.", "Rp1003p1001g0001A.", 6, 7, 10200);
        turnIs("All divisions are rounded down.", "Rp1003p1001g0001B.", 6, 7, 10201);
    }

    private static void simulateYears() {
        String words = "Otherwise: years(1 + q % 2).";
        for (int kind = 6; kind < 16; kind++) {
            turnIs(words, "Rp0000p0000s11g0001Z.", kind, 0, kind >= 14 ? 200 : 10200);
            turnIs(words, "Rp0000p0000s12g0001Z.", kind, 0, 10200);
            turnIs(words, "Rp0000p0000s12g0001Z.", kind, 1, kind >= 14 ? 200 : 10200);
            turnIs(words, "Rp0000p0000s13g0001Z.", kind, 1, 10200);
        }
    }

    private static void simulateAnswers() {
        String words = "Returns 10000 * (the names that are alive at the end) "
            + "+ 100 * (the people at the end) + (the mixes in the turns).";
        for (long seed = 0; seed < 40; seed++) {
            simulated(words, "Rp0100p0100p0101p0101p0110p0111p0112g0001A.g0200B.g0302D.s19s29", seed, 60);
        }
        Check.edge(TWENTY_FIVE, "(the mixes in the turns)", () -> {
            NameBenches x = of("Rp0100p0101g0100A.c1A.c1A.c1A.");
            for (long seed = 0; seed < 40; seed++) {
                Check.same("earlier ones do not count", x.simulate(seed, 30), of("Rp0100p0101g0100A.").simulate(seed, 30));
            }
        });
    }

    private static void simulateLeavesOut() {
        String words = "What would throw an exception is left out.";
        for (long seed = 0; seed < 20; seed++) {
            simulated(words, "R", seed, 60);
            simulated(words, "R" + "p0100".repeat(12), seed, 60);
        }
        Check.edge(TWENTY_FIVE, words, () -> {
            for (long seed = 0; seed < 40; seed++) {
                Check.same("years above 999", inLastYears().simulate(seed, 30), byHand(inLastYears(), seed, 30));
            }
        });
    }

    private static NameBenches inLastYears() {
        NameBenches x = new NameBenches();
        years(x, 998);
        x.set(1, 4);
        x.set(2, 9);
        for (int i = 0; i < 4; i++) {
            x.person(i, 0, i % 2);
        }
        x.give(0, 1, 1, A);
        x.give(1, 0, 1, B);
        return x;
    }

    private static void simulateOnACopy() {
        String words = "Simulates m turns on a copy of the state.";
        for (long seed = 0; seed < 10; seed++) {
            long which = seed;
            Check.edge(TWENTY_FIVE, words, () -> changesNothing("simulate", x -> x.simulate(which, 60)));
        }
        Check.edge(TWENTY_FIVE, words, () -> {
            NameBenches x = busy();
            int first = x.simulate(5, 60);
            Check.same("the same again", x.simulate(5, 60), first);
        });
    }
}
