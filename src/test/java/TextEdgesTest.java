/** Promises 1 to 5 and the section TEXT of the terms: each sentence that names an edge has a test of its own. */
public final class TextEdgesTest extends TestBase {
    private static final String ONE = "Promise 1";
    private static final String TWO = "Promise 2, append";
    private static final String THREE = "Promise 3, clearText";
    private static final String FOUR = "Promise 4, errorPosition";
    private static final String FIVE = "Promise 5, load";

    public static void main(String[] args) {
        newObject();
        appendInRange();
        appendOutOfRange();
        appendToFullText();
        clearText();
        errorPosition();
        head();
        people();
        letters();
        commandP();
        commandG();
        commandC();
        commandY();
        commandB();
        commandS();
        blanks();
        otherCharacters();
        firstError();
        tooSoon();
        loadMakesNew();
        loadKeepsText();
        loadOfNoRegistry();
        loadCounts();
        loadLeavesOutWhatThrows();
        loadLeavesOutNames();
        loadLeavesOutCalls();
        Check.end();
    }

    // ---- Promise 1

    private static void newObject() {
        Check.edge(ONE, "Creates a registry without people.", () -> {
            NameBenches x = new NameBenches();
            Check.same("people", x.about(0), 0);
            Check.fails("person 0", BOUNDS, () -> x.personOf(0, 0));
        });
        Check.edge(ONE, "There are at most 40 names ever, numbered from 0", () -> {
            NameBenches x = new NameBenches();
            Check.same("names", x.about(1), 0);
            Check.fails("name 0", BOUNDS, () -> x.nameOf(0, 0));
        });
        Check.edge(ONE, "Years are numbered from 0.", () -> Check.same("year", new NameBenches().about(7), 0));
        Check.edge(ONE, "0: uses until a name sticks, 1 to 9, at first 3",
            () -> Check.same("setting 0", new NameBenches().about(12), 3));
        Check.edge(ONE, "1: years until a name is forgotten, 1 to 9, at first 3",
            () -> Check.same("setting 1", new NameBenches().about(13), 3));
        Check.edge(ONE, "2: years for a quarter of a letter, 0 to 9, at first 3",
            () -> Check.same("setting 2", new NameBenches().about(14), 3));
        Check.edge(ONE, "Creates a registry without people.",
            () -> abouts(new NameBenches(), "new", 0, 0, 0, 0, 0, 0, 0, 0, 0, 0, 0, 0, 3, 3, 3));
        Check.edge(ONE, "The object has a text buffer of at most 120 characters.", () -> {
            NameBenches x = new NameBenches();
            Check.same("errorPosition", x.errorPosition(), 0);
            Check.same("the first character", x.append('R'), 1);
        });
        Check.edge(ONE, "Throws `IllegalStateException` if none is remembered",
            () -> Check.fails("undo of a new one", STATE, new NameBenches()::undo));
        for (int slot = 0; slot < 2; slot++) {
            int which = slot;
            Check.edge(ONE, "Throws `IllegalStateException` if nothing has been saved in it since the last load",
                () -> Check.fails("slot " + which + " of a new one", STATE, () -> new NameBenches().restore(which)));
        }
    }

    // ---- Promise 2

    private static void appendInRange() {
        Check.edge(TWO, "character code, 0 to 255", () -> Check.same("0", new NameBenches().append(0), 1));
        Check.edge(TWO, "character code, 0 to 255", () -> Check.same("255", new NameBenches().append(255), 1));
        Check.edge(TWO, "Returns the new length of the text.", () -> {
            NameBenches x = new NameBenches();
            for (int i = 1; i <= 120; i++) {
                Check.same("character " + i, x.append(i), i);
            }
        });
        Check.edge(TWO, "Appends a character to the text buffer.", () -> {
            NameBenches x = new NameBenches();
            x.append('R');
            x.append('y');
            Check.same("half", x.errorPosition(), 2);
            x.append('9');
            Check.same("whole", x.errorPosition(), NONE);
        });
    }

    private static void appendOutOfRange() {
        for (int bad : new int[] {-1, LEAST, 256, MOST, 256 + 'R', 'R' - 256, 65536 + 'R'}) {
            Check.edge(TWO, "Throws `IllegalArgumentException` if c is out of range", () -> {
                NameBenches x = new NameBenches();
                Check.fails("append " + bad, ARGUMENT, () -> x.append(bad));
                Check.same("the text is still empty", x.clearText(), 0);
            });
        }
    }

    private static NameBenches full() {
        NameBenches x = new NameBenches();
        add(x, "R" + "y1".repeat(58) + "s00");
        return x;
    }

    private static void appendToFullText() {
        String words = "Throws `IllegalStateException` if the text already has 120 characters";
        Check.edge(TWO, words, () -> {
            NameBenches x = new NameBenches();
            add(x, "R".repeat(119));
            Check.same("119 are not yet too many", x.append('R'), 120);
        });
        Check.edge(TWO, words, () -> Check.fails("a 121st", STATE, () -> full().append('R')));
        Check.edge(TWO, words, () -> {
            NameBenches x = full();
            Check.fails("a 121st", STATE, () -> x.append('R'));
            Check.same("the 120 stay as they are", x.errorPosition(), NONE);
            Check.same("and are 120", x.clearText(), 120);
        });
        Check.edge(TWO, words, () -> {
            NameBenches x = full();
            x.clearText();
            Check.same("an emptied text takes more", x.append('R'), 1);
        });
        for (int bad : new int[] {-1, 256}) {
            Check.edge(TWO, "If several exceptions apply to a call, the one that its description names first is thrown.",
                () -> Check.fails("append " + bad + " to a full text", ARGUMENT, () -> full().append(bad)));
        }
    }

    // ---- Promise 3

    private static void clearText() {
        Check.edge(THREE, "Returns the previous length of the text.",
            () -> Check.same("of an empty text", new NameBenches().clearText(), 0));
        Check.edge(THREE, "Returns the previous length of the text.",
            () -> Check.same("of a full text", full().clearText(), 120));
        Check.edge(THREE, "Empties the text buffer.", () -> {
            NameBenches x = full();
            x.clearText();
            Check.same("again", x.clearText(), 0);
            Check.same("errorPosition", x.errorPosition(), 0);
        });
        Check.edge(THREE, "the state, which consists of everything but the text and the save slots", () -> {
            NameBenches x = of("Rp1203");
            x.set(0, 9);
            x.clearText();
            Check.same("the person stays", x.about(0), 1);
            Check.same("clearText is no action", x.undo(), 0);
        });
    }

    // ---- Promise 4 and TEXT

    private static void errorPosition() {
        Check.edge(FOUR, "NONE if it is a registry", () -> isError("R", NONE));
        Check.edge(FOUR, "NONE if it is a registry", () -> Check.same("a full one", full().errorPosition(), NONE));
        Check.edge(FOUR, "Checks the text.", () -> changesNothing("errorPosition", NameBenches::errorPosition));
    }

    private static void head() {
        String words = "A registry as a text is the letter R, and then any number of commands";
        Check.edge(FOUR, words, () -> isError("", 0));
        Check.edge(FOUR, words, () -> isError("r", 0));
        Check.edge(FOUR, words, () -> isError("p1203", 0));
        Check.edge(FOUR, words, () -> isError("RR", 1));
        Check.edge(FOUR, words, () -> isError("Ry1Ry1", 3));
        Check.edge(FOUR, words, () -> isError("R" + "y1".repeat(59), NONE));
        for (char sign = 1; sign < 256; sign++) {
            if ("pgcybs".indexOf(sign) < 0) {
                String text = "R" + sign;
                Check.edge(FOUR, words, () -> isError(text, 1));
            }
        }
    }

    private static void people() {
        String words = "a person is two digits (00 to 11)";
        for (String good : new String[] {"00", "09", "10", "11"}) {
            Check.edge(FOUR, words, () -> isError("Rg" + good + "00A.", NONE));
            Check.edge(FOUR, words, () -> isError("Rg00" + good + "A.", NONE));
            Check.edge(FOUR, words, () -> isError("Rb" + good + "0", NONE));
        }
        String digits = "a digit is not allowed if no number that is allowed begins with it and those before it";
        for (String bad : new String[] {"12", "19"}) {
            Check.edge(FOUR, digits, () -> isError("Rg" + bad + "00A.", 3));
            Check.edge(FOUR, digits, () -> isError("Rg00" + bad + "A.", 5));
            Check.edge(FOUR, digits, () -> isError("Rb" + bad + "0", 3));
        }
        for (String bad : new String[] {"20", "91", "/0", ":0", "A0"}) {
            Check.edge(FOUR, digits, () -> isError("Rg" + bad + "00A.", 2));
            Check.edge(FOUR, digits, () -> isError("Rg00" + bad + "A.", 4));
            Check.edge(FOUR, digits, () -> isError("Rb" + bad + "0", 2));
        }
        for (String bad : new String[] {"0/", "0:", "1A", "1."}) {
            Check.edge(FOUR, words, () -> isError("Rg" + bad + "00A.", 3));
            Check.edge(FOUR, words, () -> isError("Rg00" + bad + "A.", 5));
            Check.edge(FOUR, words, () -> isError("Rb" + bad + "0", 3));
        }
    }

    private static void letters() {
        String words = "letters of a name are 1 to 4 letters A to Z";
        for (String command : new String[] {"Rg0001", "Rc0"}) {
            int at = command.length();
            Check.edge(FOUR, words, () -> isError(command + ".", at));
            Check.edge(FOUR, words, () -> isError(command + "A.", NONE));
            Check.edge(FOUR, words, () -> isError(command + "Z.", NONE));
            Check.edge(FOUR, words, () -> isError(command + "AZAZ.", NONE));
            Check.edge(FOUR, words, () -> isError(command + "AZAZA.", at + 4));
            for (String bad : new String[] {"@", "[", "a", "z", "0", "\u00c4"}) {
                Check.edge(FOUR, words, () -> isError(command + bad + ".", at));
                Check.edge(FOUR, words, () -> isError(command + "ABC" + bad + ".", at + 3));
            }
        }
    }

    private static void commandP() {
        String words = "p, two digits for an age (00 to 99), a family (0 to 5), and a bench (0 to 3)";
        Check.edge(FOUR, words, () -> isError("Rp0000", NONE));
        Check.edge(FOUR, words, () -> isError("Rp9953", NONE));
        Check.edge(FOUR, words, () -> isError("Rp/000", 2));
        Check.edge(FOUR, words, () -> isError("Rp:000", 2));
        Check.edge(FOUR, words, () -> isError("Rp9/00", 3));
        Check.edge(FOUR, words, () -> isError("Rp9:00", 3));
        Check.edge(FOUR, words, () -> isError("Rp99/0", 4));
        Check.edge(FOUR, words, () -> isError("Rp9960", 4));
        Check.edge(FOUR, words, () -> isError("Rp995/", 5));
        Check.edge(FOUR, words, () -> isError("Rp9954", 5));
        Check.edge(FOUR, words, () -> isError("Rp99530", 6));
        Check.edge(FOUR, words, () -> isError("RP9953", 1));
    }

    private static void commandG() {
        String words = "g, two people (the giver first), letters, and a dot: a name is given";
        Check.edge(FOUR, words, () -> isError("Rg0000A.", NONE));
        Check.edge(FOUR, words, () -> isError("Rg1111ZZZZ.", NONE));
        Check.edge(FOUR, words, () -> isError("Rg1111ZZZZ", 10));
        Check.edge(FOUR, words, () -> isError("Rg1111ZZZZ,", 10));
        Check.edge(FOUR, words, () -> isError("Rg1111Z,", 7));
        Check.edge(FOUR, words, () -> isError("Rg1111Z..", 8));
        Check.edge(FOUR, words, () -> isError("Rg11A.", 4));
        Check.edge(FOUR, words, () -> {
            NameBenches x = of("Rp1000p1000g0001A.");
            Check.same("giver", x.nameOf(0, 2), 0);
            Check.same("whoever has it", x.nameOf(0, 3), 1);
        });
    }

    private static void commandC() {
        String words = "c, a bench, letters, and a dot: a call";
        Check.edge(FOUR, words, () -> isError("Rc0A.", NONE));
        Check.edge(FOUR, words, () -> isError("Rc3ZZZZ.", NONE));
        Check.edge(FOUR, words, () -> isError("Rc4A.", 2));
        Check.edge(FOUR, words, () -> isError("Rc/A.", 2));
        Check.edge(FOUR, words, () -> isError("RcA.", 2));
        Check.edge(FOUR, words, () -> isError("Rc3A", 4));
        Check.edge(FOUR, words, () -> isError("Rc3Ac3A.", 4));
        Check.edge(FOUR, words, () -> isError("Rc03A.", 3));
    }

    private static void commandY() {
        String words = "y and a digit (1 to 9): years()";
        Check.edge(FOUR, words, () -> isError("Ry1", NONE));
        Check.edge(FOUR, words, () -> isError("Ry9", NONE));
        Check.edge(FOUR, words, () -> isError("Ry0", 2));
        Check.edge(FOUR, words, () -> isError("Ry/", 2));
        Check.edge(FOUR, words, () -> isError("Ry:", 2));
        Check.edge(FOUR, words, () -> isError("Ry10", 3));
    }

    private static void commandB() {
        String words = "b, a person, and a bench: sit()";
        Check.edge(FOUR, words, () -> isError("Rb000", NONE));
        Check.edge(FOUR, words, () -> isError("Rb113", NONE));
        Check.edge(FOUR, words, () -> isError("Rb114", 4));
        Check.edge(FOUR, words, () -> isError("Rb11/", 4));
        Check.edge(FOUR, words, () -> isError("Rb1130", 5));
    }

    private static void commandS() {
        String words = "s, a digit (0 to 2), and a digit (0 to 9): set()";
        Check.edge(FOUR, words, () -> isError("Rs00", NONE));
        Check.edge(FOUR, words, () -> isError("Rs29", NONE));
        Check.edge(FOUR, words, () -> isError("Rs39", 2));
        Check.edge(FOUR, words, () -> isError("Rs/9", 2));
        Check.edge(FOUR, words, () -> isError("Rs2/", 3));
        Check.edge(FOUR, words, () -> isError("Rs2:", 3));
        Check.edge(FOUR, words, () -> isError("Rs290", 4));
    }

    private static void blanks() {
        String text = "Rp1203g0011AB.c3Z.y9b113s29";
        for (int at = 0; at <= text.length(); at++) {
            int here = at;
            Check.edge(FOUR, "There are no blanks.",
                () -> isError(text.substring(0, here) + " " + text.substring(here), here));
        }
    }

    private static void otherCharacters() {
        String text = "Rp1203g0011AB.c3Z.y9b113s29";
        for (int at = 0; at <= text.length(); at++) {
            int here = at;
            String words = "The error position is the index of the first character that these rules do not allow at its place";
            for (String bad : new String[] {"\0", "\u00ff", "\n"}) {
                Check.edge(FOUR, words, () -> isError(text.substring(0, here) + bad + text.substring(here), here));
            }
        }
    }

    private static void firstError() {
        String words = "The text is read from left to right.";
        Check.edge(FOUR, words, () -> isError("Ry0p996", 2));
        Check.edge(FOUR, words, () -> isError("Rp996y0", 4));
        Check.edge(FOUR, words, () -> isError("Ry1y2y0x", 6));
        Check.edge(FIVE, words, () -> leavesOut(1, "Rp1000p1000c0A.g0001A."));
        Check.edge(FIVE, words, () -> leavesOut(0, "Rp1000p1000g0001A.c0A."));
    }

    private static void tooSoon() {
        String words = "if the text ends too soon, it is the length of the text";
        String text = "Rp1203g0011ABCD.c3Z.y9b113s29";
        String ends = " 1 6 16 20 22 26 29 ";
        for (int length = 0; length <= text.length(); length++) {
            String part = text.substring(0, length);
            int due = ends.contains(" " + length + " ") ? NONE : length;
            Check.edge(FOUR, words, () -> isError(part, due));
        }
        Check.edge(FOUR, words, () -> isError("R" + "y1".repeat(59) + "y", 120));
        Check.edge(FOUR, words, () -> isError("R" + "y1".repeat(56) + "g0001A", 119));
        Check.edge(FOUR, words, () -> isError("R" + "y1".repeat(56) + "g0001AB", 120));
    }

    // ---- Promise 5

    private static void loadMakesNew() {
        Check.edge(FIVE, "Makes everything as in a new object, and then does the commands of the text.", () -> {
            NameBenches x = busy();
            x.call(3, 1, Z);
            x.give(0, 0, 1, Z);
            x.call(0, 1, A);
            x.years(9);
            x.set(1, 9);
            x.set(2, 0);
            put(x, "R");
            Check.same("load", x.load(), 0);
            abouts(x, "loaded", 0, 0, 0, 0, 0, 0, 0, 0, 0, 0, 0, 0, 3, 3, 3);
        });
        Check.edge(FIVE, "Makes everything as in a new object, and then does the commands of the text.", () -> {
            NameBenches x = of("Rp1000p1101g0001A.c0A.c1A.c1A.c1A.");
            put(x, "Rp2020p2121g0001B.");
            x.load();
            Check.that("no person or name is as before", all(x).equals(all(of("Rp2020p2121g0001B."))));
        });
        Check.edge(FIVE, "Makes everything as in a new object, and then does the commands of the text.", () -> {
            NameBenches x = of("Rp1000p1000s01g0001A.c0A.");
            put(x, "Rp1000p1000");
            x.load();
            Check.same("no letter is in a name", x.bestName(0, 1, 1), A);
            Check.same("nobody is meant", x.meant(0, 1, A, 1), NONE);
            Check.same("nobody gave any", x.bestGiver(), NONE);
            Check.same("none was sticking", x.personOf(0, 6), 0);
            Check.same("the roll is empty", x.roll(0), NONE);
        });
        Check.edge(FIVE, "Behind it no state is remembered, and both save slots are empty.", () -> {
            NameBenches x = busy();
            put(x, "Rp1203y1");
            x.load();
            Check.fails("undo", STATE, x::undo);
        });
        for (int slot = 0; slot < 2; slot++) {
            int which = slot;
            Check.edge(FIVE, "Behind it no state is remembered, and both save slots are empty.", () -> {
                NameBenches x = busy();
                x.save(which);
                put(x, "R");
                x.load();
                Check.fails("slot " + which, STATE, () -> x.restore(which));
            });
        }
        Check.edge(FIVE, "load and restore are not actions.", () -> {
            NameBenches x = of("Rp1203");
            x.load();
            Check.fails("undo behind two loads", STATE, x::undo);
            x.years(1);
            Check.same("one action behind them", x.undo(), 0);
        });
    }

    private static void loadKeepsText() {
        Check.edge(FIVE, "Keeps the text, also if it throws the exception.", () -> {
            NameBenches x = of("Rp1203");
            Check.same("it can be loaded again", x.load(), 0);
            Check.same("one person", x.about(0), 1);
            Check.same("its length", x.clearText(), 6);
        });
        Check.edge(FIVE, "Keeps the text, also if it throws the exception.", () -> {
            NameBenches x = new NameBenches();
            put(x, "Rp12");
            Check.fails("load", STATE, x::load);
            Check.same("its length", x.append('0'), 5);
            x.append('3');
            Check.same("load of the whole", x.load(), 0);
            Check.same("the age in it", x.personOf(0, 0), 12);
        });
    }

    private static void loadOfNoRegistry() {
        String words = "Throws `IllegalStateException` if the text is not a registry";
        Check.edge(FIVE, words, () -> Check.fails("an empty text", STATE, new NameBenches()::load));
        for (String bad : new String[] {"r", "RR", "Rp1204", "Rp1200 ", "Ry1y0", "Rg0001", "Rp1200g0012A."}) {
            Check.edge(FIVE, words, () -> {
                NameBenches x = new NameBenches();
                put(x, bad);
                Check.fails("load of " + bad, STATE, x::load);
                Check.same("none of its commands is done", x.about(0) + x.about(7), 0);
            });
        }
        Check.edge(FIVE, "A call that throws an exception changes nothing.",
            () -> refusesWholly("load", STATE, NameBenches::load));
    }

    private static void loadCounts() {
        String words = "Returns the number of commands that are left out.";
        Check.edge(FIVE, words, () -> leavesOut(0, "R"));
        Check.edge(FIVE, words, () -> leavesOut(39, "R" + "s00".repeat(39)));
        Check.edge(FIVE, words, () -> {
            NameBenches x = leavesOut(0, "R" + "y9".repeat(59));
            Check.same("all 59 are done", x.about(7), 531);
        });
        Check.edge(FIVE, words, () -> {
            NameBenches x = leavesOut(2, "Rs00s15s00");
            Check.same("the one between is done", x.about(13), 5);
        });
    }

    private static void loadLeavesOutWhatThrows() {
        String words = "Commands that would throw an exception, names that cannot be given, and calls that mean nobody, "
            + "are left out";
        Check.edge(FIVE, words, () -> Check.same("a 13th person", leavesOut(1, "R" + "p1000".repeat(13)).about(0), 12));
        Check.edge(FIVE, words, () -> Check.same("set(0, 0)", leavesOut(1, "Rs00").about(12), 3));
        Check.edge(FIVE, words, () -> Check.same("set(1, 0)", leavesOut(1, "Rs10").about(13), 3));
        Check.edge(FIVE, words, () -> Check.same("set(2, 0) does not throw", leavesOut(0, "Rs20").about(14), 0));
        Check.edge(FIVE, words, () -> leavesOut(1, "Rb000"));
        Check.edge(FIVE, words, () -> leavesOut(1, "Rp1000b010"));
        Check.edge(FIVE, words, () -> leavesOut(1, "Rp1000p1001p1010p1011g0001A.g0302A.b010"));
        Check.edge(FIVE, words, () -> leavesOut(1, "Rp1000g0100A."));
        Check.edge(FIVE, words, () -> leavesOut(1, "Rp1000g0001A."));
    }

    private static void loadLeavesOutNames() {
        String words = "Commands that would throw an exception, names that cannot be given, and calls that mean nobody, "
            + "are left out";
        Check.edge(FIVE, words, () -> leavesOut(1, "Rp1000g0000A."));
        Check.edge(FIVE, words, () -> leavesOut(1, "Rp1000p1011g0001A."));
        Check.edge(FIVE, words, () -> leavesOut(1, "Rp1000p1000g0001A.g0001B.g0001C.g0001D."));
        Check.edge(FIVE, words, () -> leavesOut(1, "Rp1000p1000g0001A.g0100A."));
        Check.edge(FIVE, "(these count as refused nowhere)",
            () -> Check.same("refused", leavesOut(2, "Rp1000g0000A.g0000B.").about(11), 0));
    }

    private static void loadLeavesOutCalls() {
        String words = "Commands that would throw an exception, names that cannot be given, and calls that mean nobody, "
            + "are left out";
        Check.edge(FIVE, words, () -> leavesOut(2, "Rc0A.p1000c0A."));
        Check.edge(FIVE, words, () -> {
            NameBenches x = leavesOut(0, "Rp1000p1001g0001A.c0A.");
            Check.same("a mix is a call that means somebody", x.about(9), 1);
        });
        Check.edge(FIVE, "(these count as refused nowhere)",
            () -> Check.same("calls of nobody", leavesOut(2, "Rc0A.c3ZZZZ.").about(10), 0));
    }
}
