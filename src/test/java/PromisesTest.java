/** One method for each promise of the document, with what it names: ordinary inputs, edges, wrong inputs. */
public final class PromisesTest extends TestBase {
    public static void main(String[] args) {
        newObject();
        append();
        clearText();
        errorPosition();
        errorPositionOfEachCommand();
        load();
        loadLeavesOut();
        about();
        personOf();
        nameOf();
        letter();
        roll();
        meant();
        person();
        sit();
        give();
        giveReasonsInTheirOrder();
        giveAtMostForty();
        call();
        callOfBrothers();
        years();
        yearsHandOn();
        yearsHandOnToWhom();
        yearsHandOnWithForty();
        set();
        undo();
        why();
        endsIn();
        bestName();
        bestGiver();
        mixed();
        runScript();
        runScriptGroups();
        simulate();
        save();
        restore();
        restoreOfEachNumber();
        Check.end();
    }

    // ---- 1 to 5

    private static void newObject() {
        NameBenches x = new NameBenches();
        abouts(x, "new", 0, 0, 0, 0, 0, 0, 0, 0, 0, 0, 0, 0, 3, 3, 3);
        Check.same("NONE", NameBenches.NONE, -1);
        Check.same("a new text", x.clearText(), 0);
        Check.fails("a new undo", STATE, () -> x.undo());
        Check.fails("a new slot 0", STATE, () -> x.restore(0));
        Check.fails("a new slot 1", STATE, () -> x.restore(1));
    }

    private static void append() {
        NameBenches x = new NameBenches();
        for (int bad : new int[] {-1, 256, LEAST, MOST}) {
            Check.fails("append " + bad, ARGUMENT, () -> x.append(bad));
        }
        Check.same("append 0", x.append(0), 1);
        Check.same("append 255", x.append(255), 2);
        for (int i = 3; i <= 120; i++) {
            Check.same("append", x.append('R'), i);
        }
        Check.fails("append to a full text", STATE, () -> x.append('R'));
        Check.fails("append -1 to a full text", ARGUMENT, () -> x.append(-1));
        Check.same("text", x.clearText(), 120);
    }

    private static void clearText() {
        NameBenches x = of("Rp1203");
        Check.same("clearText", x.clearText(), 6);
        Check.same("clearText again", x.clearText(), 0);
        Check.same("the state stays", x.about(0), 1);
        Check.same("append behind", x.append('R'), 1);
        Check.same("errorPosition behind", x.errorPosition(), NONE);
    }

    private static void errorPosition() {
        isError("", 0);
        isError("R", NONE);
        isError("r", 0);
        isError(" R", 0);
        isError("R ", 1);
        isError("RR", 1);
        isError("Rx", 1);
        isError("R0", 1);
        isError("R.", 1);
        isError("Rp1200p1300", NONE);
        isError("Rp1200 p1300", 6);
        isError("Rp1200p", 7);
        isError("Rp12000", 6);
        isError("Ry1s00b000c0A.g0000A.p0000", NONE);
        isError("R\u00ff", 1);
        isError("R\0", 1);
        isError("R" + "y1".repeat(59) + "p", 120);
        isError("R" + "y1".repeat(59), NONE);
        NameBenches x = of("Rp1200");
        x.clearText();
        x.append('R');
        x.append('p');
        String before = all(x);
        Check.same("errorPosition", x.errorPosition(), 2);
        Check.that("errorPosition changes nothing", before.equals(all(x)));
    }

    private static void errorPositionOfEachCommand() {
        isError("Rp", 2);
        isError("Rp9953", NONE);
        isError("Rp0000", NONE);
        isError("Rpa", 2);
        isError("Rp:", 2);
        isError("Rp0:", 3);
        isError("Rp996", 4);
        isError("Rp9954", 5);
        isError("Rp995", 5);
        isError("Rg0011ABCD.", NONE);
        isError("RgA.", 2);
        isError("Rg11A.", 4);
        isError("Rg2", 2);
        isError("Rg12", 3);
        isError("Rg1109A.", NONE);
        isError("Rg112", 4);
        isError("Rg1112", 5);
        isError("Rg1111.", 6);
        isError("Rg1111", 6);
        isError("Rg1111A", 7);
        isError("Rg1111ABCDE", 10);
        isError("Rg1111ABCD", 10);
        isError("Rg1111a", 6);
        isError("Rg1111@", 6);
        isError("Rg1111[", 6);
        isError("Rg1111A0", 7);
        isError("Rg1111ZZ.", NONE);
        isError("Rc3Z.", NONE);
        isError("Rc4", 2);
        isError("Rc3.", 3);
        isError("Rc/", 2);
        isError("Ry", 2);
        isError("Ry0", 2);
        isError("Ry:", 2);
        isError("Ry9", NONE);
        isError("Ry11", 3);
        isError("Rb113", NONE);
        isError("Rb12", 3);
        isError("Rb3", 2);
        isError("Rb114", 4);
        isError("Rb11", 4);
        isError("Rs", 2);
        isError("Rs3", 2);
        isError("Rs29", NONE);
        isError("Rs00", NONE);
        isError("Rs2:", 3);
        isError("Rs2/", 3);
    }

    private static void load() {
        NameBenches x = new NameBenches();
        Check.fails("load of an empty text", STATE, () -> x.load());
        x.person(50, 5, 3);
        x.save(0);
        put(x, "Rp12");
        refuses(x, "load of half a command", STATE, () -> x.load());
        Check.same("the text is kept", x.clearText(), 4);
        Check.same("the slot is kept", x.restore(0), 0);
        x.set(1, 9);
        x.save(1);
        put(x, "Rp1201p0711g0001AB.c1AB.c1AB.s09y1b011c3A.");
        Check.same("load", x.load(), 1);
        abouts(x, "loaded", 2, 1, 1, 0, 0, 0, 0, 1, 2, 0, 0, 0, 9, 3, 3);
        Check.same("who has it", x.nameOf(0, 3), 1);
        Check.same("age", x.personOf(0, 0), 13);
        Check.fails("undo behind load", STATE, () -> x.undo());
        Check.fails("slot 0 behind load", STATE, () -> x.restore(0));
        Check.fails("slot 1 behind load", STATE, () -> x.restore(1));
        Check.same("the text is kept behind load", x.clearText(), 42);
        put(x, "R");
        Check.same("load R", x.load(), 0);
        abouts(x, "loaded R", 0, 0, 0, 0, 0, 0, 0, 0, 0, 0, 0, 0, 3, 3, 3);
    }

    private static void loadLeavesOut() {
        NameBenches x = new NameBenches();
        put(x, "Rb000g0001A.c0A.s00s10p1000p1010g0001A.g0100A.g0101B.g0111C.g0000D.c0B.c1A.b113b003s20");
        Check.same("left out", x.load(), 12);
        abouts(x, "left out", 2, 1, 1, 0, 0, 0, 0, 0, 0, 0, 0, 0, 3, 3, 0);
        Check.same("sat", x.personOf(0, 2), 3);
        put(x, "R" + "p0000".repeat(13));
        Check.same("13 people", x.load(), 1);
        Check.same("12 people", x.about(0), 12);
        put(x, "Rp1000p1001p1010p1011g0001A.g0302A.b010b021b011b003");
        Check.same("sits", x.load(), 2);
        put(x, "R" + "y9".repeat(59));
        Check.same("years", x.load(), 0);
        Check.same("531 years", x.about(7), 531);
    }

    // ---- 6 to 11

    private static void about() {
        NameBenches x = new NameBenches();
        for (int bad : new int[] {-1, 15, LEAST, MOST}) {
            Check.fails("about " + bad, ARGUMENT, () -> x.about(bad));
        }
        x.person(20, 0, 0);
        x.person(10, 0, 0);
        x.person(5, 1, 0);
        x.person(5, 0, 1);
        x.set(0, 1);
        x.give(1, 0, 1, A);
        x.give(0, 1, 1, B);
        x.give(0, 2, 4, ZZZZ);
        x.give(0, 0, 1, C);
        x.call(0, 1, A);
        x.call(0, 1, A);
        x.call(1, 1, B);
        x.call(0, 2, A);
        x.call(3, 1, A);
        x.years(1);
        x.set(1, 2);
        x.set(2, 4);
        abouts(x, "about", 4, 4, 3, 0, 0, 0, 1, 1, 2, 1, 2, 1, 1, 2, 4);
        x.years(1);
        abouts(x, "about a year later", 4, 4, 1, 0, 2, 0, 1, 2, 2, 1, 2, 1, 1, 2, 4);
    }

    private static void personOf() {
        NameBenches x = new NameBenches();
        Check.fails("personOf nobody", BOUNDS, () -> x.personOf(0, 0));
        x.person(30, 2, 1);
        x.person(8, 2, 1);
        x.person(7, 2, 3);
        x.person(7, 4, 1);
        x.set(0, 2);
        x.give(1, 0, 1, A);
        x.give(1, 2, 1, B);
        x.give(2, 1, 1, C);
        x.give(3, 0, 1, D);
        calls(x, 2, 1, 1, A);
        calls(x, 3, 3, 1, A);
        calls(x, 1, 1, 1, B);
        int[][] due = {
            {30, 2, 1, 2, 2, 0, 0, 1, 3},
            {8, 2, 1, 1, 2, 2, 1, 0, 0},
            {7, 2, 3, 1, 2, 1, 0, 3, 1},
            {7, 4, 1, 0, 0, 1, 0, 0, 0},
        };
        for (int i = 0; i < 36; i++) {
            Check.same("personOf " + i / 9 + " " + i % 9, x.personOf(i / 9, i % 9), due[i / 9][i % 9]);
        }
        x.years(1);
        int[] after = {31, 2, 1, 0, 2, 1, 0, 1, 3};
        for (int what = 0; what < 9; what++) {
            Check.same("personOf 0 " + what + " behind a year", x.personOf(0, what), after[what]);
        }
        Check.same("stuck ones of 1 that are handed on", x.personOf(1, 6), 1);
        for (int bad : new int[] {-1, 4, LEAST, MOST}) {
            Check.fails("personOf " + bad, BOUNDS, () -> x.personOf(bad, 9));
        }
        for (int bad : new int[] {-1, 9, LEAST, MOST}) {
            Check.fails("personOf 0 " + bad, ARGUMENT, () -> x.personOf(0, bad));
        }
    }

    private static void nameOf() {
        NameBenches x = of("Rp1200p0900s29y1g0001ABCD.g0100Z.s01y1c0Z.");
        int[][] due = {{4, 731, 0, 1, 0, 1, 0, 0}, {1, 25, 1, 0, 1, 2, 1, 1}};
        for (int i = 0; i < 16; i++) {
            Check.same("nameOf " + i / 8 + " " + i % 8, x.nameOf(i / 8, i % 8), due[i / 8][i % 8]);
        }
        x.set(2, 3);
        x.years(2);
        int[][] later = {{4, 731, 0, 1, 0, 1, 2, 0}, {1, 25, 1, 0, 1, 2, 4, 1}, {1, 25, 0, 1, 0, 3, 3, 0}};
        for (int i = 0; i < 24; i++) {
            Check.same("nameOf " + i / 8 + " " + i % 8 + " later", x.nameOf(i / 8, i % 8), later[i / 8][i % 8]);
        }
        for (int bad : new int[] {-1, 3, 40, LEAST, MOST}) {
            Check.fails("nameOf " + bad, BOUNDS, () -> x.nameOf(bad, 8));
        }
        for (int bad : new int[] {-1, 8, LEAST, MOST}) {
            Check.fails("nameOf 0 " + bad, ARGUMENT, () -> x.nameOf(0, bad));
        }
    }

    private static void letter() {
        NameBenches x = of("Rp1200p0900g0001BZAX.g0100Q.");
        int[] due = {1, 25, 0, 23, NONE, NONE};
        for (int place = 0; place < 6; place++) {
            Check.same("letter 0 " + place, x.letter(0, place), due[place]);
        }
        Check.same("letter 1 0", x.letter(1, 0), 16);
        Check.same("letter 1 1", x.letter(1, 1), NONE);
        Check.same("letter 1 most", x.letter(1, MOST), NONE);
        x.years(9);
        Check.same("a letter of a name that is not alive", x.letter(0, 3), 23);
        for (int bad : new int[] {-1, 2, LEAST, MOST}) {
            Check.fails("letter " + bad, BOUNDS, () -> x.letter(bad, 0));
        }
        Check.fails("letter 0 -1", BOUNDS, () -> x.letter(0, -1));
        Check.fails("letter 0 least", BOUNDS, () -> x.letter(0, LEAST));
    }

    private static void roll() {
        NameBenches x = of("Rp0100p0101p0110p0111g0001B.g0001AZZ.g0100B.g0302AZ.g0302BAAA.g0100A.");
        int[] due = {5, 3, 1, 0, 2, 4, NONE, NONE};
        for (int rank = 0; rank < due.length; rank++) {
            Check.same("roll " + rank, x.roll(rank), due[rank]);
        }
        Check.same("roll most", x.roll(MOST), NONE);
        x.years(2);
        x.call(1, 1, B);
        x.years(1);
        int[] later = {0, NONE};
        for (int rank = 0; rank < later.length; rank++) {
            Check.same("roll " + rank + " later", x.roll(rank), later[rank]);
        }
        Check.fails("roll -1", ARGUMENT, () -> x.roll(-1));
        Check.fails("roll least", ARGUMENT, () -> x.roll(LEAST));
    }

    private static void meant() {
        NameBenches x = of("Rp1002p1010p1001p1000p1101p1011g0200A.g0002AA.g0105B.g0501Z.g0304C.");
        int[][] due = {
            // bench, many, code, whom
            {2, 1, A, 0}, {1, 1, A, 2}, {0, 1, A, 3}, {3, 1, A, NONE}, {1, 2, 0, 2}, {0, 2, 0, 3}, {2, 2, 0, 0},
            {1, 1, B, 5}, {0, 1, B, 1}, {2, 1, B, NONE}, {0, 1, Z, 1}, {1, 1, Z, 5}, {0, 1, C, 3}, {1, 1, C, 4}, {2, 1, C, 0},
        };
        for (int[] row : due) {
            for (int way = 0; way <= 1; way++) {
                String told = "meant " + row[0] + " " + row[1] + " " + row[2] + " " + way;
                Check.same(told, x.meant(row[0], row[1], row[2], way), row[3]);
            }
        }
        Check.same("two brothers with it", of("Rp0002p0003p0001p0001g0001A.g0100A.").meant(1, 1, A, 1), 2);
        for (int bad : new int[] {-1, 4, LEAST, MOST}) {
            Check.fails("meant " + bad, BOUNDS, () -> x.meant(bad, 0, 0, 2));
        }
        wrongCodes("meant", (many, code) -> () -> x.meant(0, many, code, 0));
        for (int bad : new int[] {-1, 2, LEAST, MOST}) {
            Check.fails("meant way " + bad, ARGUMENT, () -> x.meant(0, 1, A, bad));
        }
        x.years(3);
        Check.same("meant, not alive, 0", x.meant(2, 1, A, 0), NONE);
        Check.same("meant, not alive, 1", x.meant(2, 1, A, 1), NONE);
    }

    // ---- 12 to 18

    private static void person() {
        NameBenches x = new NameBenches();
        for (int bad : new int[] {-1, 6, LEAST, MOST}) {
            refuses(x, "family " + bad, BOUNDS, () -> x.person(-1, bad, 0));
        }
        for (int bad : new int[] {-1, 4, LEAST, MOST}) {
            refuses(x, "bench " + bad, BOUNDS, () -> x.person(100, 0, bad));
        }
        for (int bad : new int[] {-1, 100, LEAST, MOST}) {
            refuses(x, "age " + bad, ARGUMENT, () -> x.person(bad, 0, 0));
        }
        Check.fails("nothing is remembered", STATE, () -> x.undo());
        Check.same("person 0", x.person(0, 0, 0), 0);
        Check.same("person 1", x.person(99, 5, 3), 1);
        for (int p = 2; p < 12; p++) {
            Check.same("person", x.person(20, 1, 1), p);
        }
        Check.same("age", x.personOf(1, 0), 99);
        Check.same("family", x.personOf(1, 1), 5);
        Check.same("bench", x.personOf(1, 2), 3);
        refuses(x, "a 13th", STATE, () -> x.person(20, 1, 1));
        Check.fails("a 13th of 100 years", ARGUMENT, () -> x.person(100, 1, 1));
        Check.fails("a 13th on no bench", BOUNDS, () -> x.person(20, 1, 4));
        Check.same("remembered", x.undo(), 11);
    }

    private static void sit() {
        NameBenches x = of("Rp1000p1001p1010p1011g0001A.g0302A.");
        Check.same("sit", x.sit(0, 3), 0);
        Check.same("sit again", x.sit(0, 3), 3);
        Check.same("bench", x.personOf(0, 2), 3);
        refuses(x, "sit with a name that is there", STATE, () -> x.sit(1, 0));
        refuses(x, "sit where such a name is", STATE, () -> x.sit(2, 1));
        Check.same("own bench", x.sit(1, 1), 1);
        Check.same("the names go along", x.sit(1, 2), 1);
        Check.same("meant there", x.meant(2, 1, A, 0), 1);
        Check.same("meant no more there", x.meant(1, 1, A, 1), 3);
        for (int bad : new int[] {-1, 4, LEAST, MOST}) {
            refuses(x, "sit " + bad, BOUNDS, () -> x.sit(bad, 0));
            refuses(x, "sit 0 " + bad, BOUNDS, () -> x.sit(1, bad));
        }
        Check.same("four actions", x.undo(), 3);
        x.years(3);
        Check.same("sit when the names are not alive", x.sit(1, 0), 1);
        NameBenches y = of("Rp0100p0101p0110p0111g0001A.y1g0302A.y2");
        states(y, "one is forgotten", 2, 0);
        Check.same("the own name is forgotten", y.sit(1, 0), 1);
        NameBenches z = of("Rp1000p1001p1010p1011g0001AB.g0302B.g0302ABA.");
        Check.same("other letters", z.sit(1, 0), 1);
    }

    private static void give() {
        NameBenches x = of("Rp1000p1001p1010");
        Check.same("to a brother", x.give(0, 1, 2, AB), 0);
        Check.same("on the bench", x.give(2, 0, 1, A), 0);
        Check.same("to oneself", x.give(0, 0, 1, A), 1);
        Check.same("to a stranger", x.give(2, 1, 1, A), 2);
        Check.same("on whose bench somebody has it", x.give(0, 2, 1, A), 4);
        Check.same("which one has oneself", x.give(1, 0, 1, A), 4);
        Check.same("which the giver has", x.give(0, 1, 1, A), 0);
        Check.same("a longer one", x.give(1, 0, 2, A), 0);
        Check.same("the longest", x.give(2, 0, 4, ZZZZ), 0);
        Check.same("a fourth", x.give(2, 0, 1, C), 3);
        abouts(x, "given", 3, 5, 5, 0, 0, 0, 0, 0, 0, 0, 0, 5);
        Check.same("giver", x.nameOf(0, 2), 0);
        Check.same("holder", x.nameOf(0, 3), 1);
        for (int bad : new int[] {-1, 3, LEAST, MOST}) {
            refuses(x, "giver " + bad, BOUNDS, () -> x.give(bad, 1, 0, 0));
            refuses(x, "to " + bad, BOUNDS, () -> x.give(0, bad, 0, 0));
        }
        wrongCodes("give", (many, code) -> () -> x.give(0, 1, many, code));
        Check.same("refused ones are actions", x.undo(), 9);
        Check.same("and are taken back", x.about(11), 4);
    }

    private static void giveReasonsInTheirOrder() {
        NameBenches x = of("Rp1000p1000p1011p1011g0001A.g0001B.g0001C.g0302A.g0302B.g0302C.");
        Check.same("1 before 3 and 4", x.give(1, 1, 1, A), 1);
        Check.same("2 before 3 and 4", x.give(2, 1, 1, A), 2);
        Check.same("3 before 4", x.give(0, 1, 1, A), 3);
        Check.same("4", x.give(1, 0, 1, A), 4);
        x.years(3);
        Check.same("names that are not alive do not count", x.give(1, 0, 1, A), 0);
        Check.same("nor for whoever had them", x.give(0, 1, 1, B), 0);
    }

    private static void giveAtMostForty() {
        NameBenches x = of("Rp1000p1000s11");
        for (int i = 0; i < 40; i++) {
            Check.same("give " + i, x.give(0, 1, 1, A), 0);
            Check.same("years", x.years(1), 1);
        }
        Check.same("a 41st", x.give(0, 1, 1, A), 5);
        Check.same("why a 41st not", x.why(0, 1, 1, A), 5);
        Check.same("1 before 5", x.give(1, 1, 1, A), 1);
        Check.same("40 names", x.about(1), 40);
        Check.same("40 forgotten", x.about(4), 40);
        NameBenches y = of("Rp1000p1000s11");
        for (int i = 0; i < 39; i++) {
            y.give(0, 1, 1, A);
            y.years(1);
        }
        Check.same("the 40th", y.give(0, 1, 1, A), 0);
        Check.same("4 before 5", y.give(1, 0, 1, A), 4);
        Check.same("5", y.give(1, 0, 1, B), 5);
    }

    private static void call() {
        NameBenches x = of("Rp1000p1001g0001A.y1");
        Check.same("call", x.call(1, 1, A), 1);
        abouts(x, "a use", 2, 1, 1, 0, 0, 0, 0, 1, 1, 0, 0, 0);
        Check.same("latest", x.nameOf(0, 5), 1);
        x.call(1, 1, A);
        Check.same("not yet", x.nameOf(0, 6), 0);
        x.call(1, 1, A);
        Check.same("sticks", x.nameOf(0, 6), 1);
        Check.same("and is marked", x.nameOf(0, 7), 1);
        Check.same("nobody by other letters", x.call(1, 2, A), NONE);
        Check.same("nobody on that bench", x.call(3, 1, A), NONE);
        Check.same("counted", x.about(10), 2);
        for (int bad : new int[] {-1, 4, LEAST, MOST}) {
            refuses(x, "call " + bad, BOUNDS, () -> x.call(bad, 0, 0));
        }
        wrongCodes("call", (many, code) -> () -> x.call(0, many, code));
        Check.same("calls of nobody are actions", x.undo(), 4);
        Check.same("and are taken back", x.about(10), 1);
        NameBenches y = of("Rp1000p1001g0001A.c1A.c1A.s01");
        Check.same("a lower setting alone makes nothing stick", y.nameOf(0, 6), 0);
        y.call(1, 1, A);
        Check.same("the next use does", y.nameOf(0, 6), 1);
        y.set(0, 9);
        y.call(1, 1, A);
        Check.same("and it goes on sticking", y.nameOf(0, 6), 1);
    }

    private static void callOfBrothers() {
        NameBenches x = of("Rp1002p1003p1001p1001p1000g0100A.g0001A.");
        Check.same("the lowest on the bench", x.call(1, 1, A), 2);
        Check.same("called so", x.personOf(2, 7), 1);
        Check.same("the lowest brother counts", x.personOf(0, 8), 1);
        Check.same("the other does not", x.personOf(1, 8), 0);
        abouts(x, "a mix", 5, 2, 2, 0, 0, 0, 0, 0, 0, 1, 0, 0);
        Check.same("the name is not used", x.nameOf(0, 4), 0);
        x.years(1);
        x.call(0, 1, A);
        Check.same("nor is its year changed", x.nameOf(0, 5), 0);
        Check.same("another bench", x.personOf(4, 7), 1);
        Check.same("whoever has it is meant first", x.call(3, 1, A), 1);
        Check.same("that is no mix", x.about(9), 2);
        NameBenches y = of("Rp1001p1010p1011p1000g0003A.g0102A.");
        Check.same("whoever has it is meant before a lower brother of another", y.call(0, 1, A), 3);
        NameBenches z = of("Rp1000p1010p1001g0200A.b013");
        Check.same("not a stranger", z.call(3, 1, A), NONE);
    }

    private static void years() {
        NameBenches x = of("Rp1200p0000g0001A.g0100AB.g0100B.");
        for (int bad : new int[] {0, -1, 10, LEAST, MOST}) {
            refuses(x, "years " + bad, ARGUMENT, () -> x.years(bad));
        }
        Check.same("the elder is too old for one letter", x.years(1), 1);
        states(x, "a year", 0, 0, 3);
        Check.same("age", x.personOf(0, 0), 13);
        Check.same("age of the younger", x.personOf(1, 0), 1);
        Check.same("year", x.about(7), 1);
        Check.same("nothing ends", x.years(1), 0);
        x.call(0, 1, A);
        Check.same("forgotten behind 3 years", x.years(1), 1);
        states(x, "three years", 0, 2, 3);
        Check.same("not yet", x.years(1), 0);
        Check.same("forgotten 3 years behind the use", x.years(1), 1);
        states(x, "five years", 2, 2, 3);
        Check.same("nothing is left", x.years(9), 0);
        NameBenches y = of("Rp1200p0000g0100A.s11");
        y.years(1);
        states(y, "forgotten before outgrown", 2);
        NameBenches z = new NameBenches();
        for (int i = 0; i < 110; i++) {
            z.years(9);
        }
        Check.same("year 990", z.about(7), 990);
        z.years(8);
        refuses(z, "year 1000", STATE, () -> z.years(2));
        Check.fails("10 years", ARGUMENT, () -> z.years(10));
        Check.same("year 999", z.years(1), 0);
        refuses(z, "year 1000 by 1", STATE, () -> z.years(1));
    }

    private static void yearsHandOn() {
        NameBenches x = of("Rp1200p0800p0700p1201s01g0100A.c0A.g0100B.g0103C.c1C.");
        Check.same("years", x.years(1), 3);
        states(x, "handed on", 4, 3, 3, 0);
        int[] due = {1, 0, 0, 1, 0, 1, 0, 0};
        for (int what = 0; what < 8; what++) {
            Check.same("the new name " + what, x.nameOf(3, what), due[what]);
        }
        Check.same("given by whoever had it", x.personOf(0, 5), 1);
        Check.same("the old one was sticking", x.nameOf(0, 7), 1);
        Check.same("letters", x.meant(0, 1, A, 0), 1);
        NameBenches y = of("Rp4000p3900s01g0100A.c0A.");
        Check.same("the heir is too old too, but not this year", y.years(1), 1);
        states(y, "this year", 4, 0);
        Check.same("but the next", y.years(1), 1);
        states(y, "the next year", 4, 3);
        NameBenches z = of("Rp4000p3900s01g0100A.c0A.");
        Check.same("both in two years", z.years(2), 2);
        states(z, "two years", 4, 3);
        NameBenches s = of("Rp0100p0000s01s20g0100A.c0A.");
        Check.same("setting 2 may be 0", s.years(1), 1);
        states(s, "setting 2 is 0", 4, 0);
    }

    private static void yearsHandOnToWhom() {
        NameBenches x = of("Rp1200p1200p0700p0900p0900p1001p1110s01g0100A.c0A.");
        x.years(1);
        Check.same("the oldest younger one here, the lowest of these", x.nameOf(1, 3), 3);
        NameBenches y = of("Rp1200p0900p0700s01g0100A.c0A.g0001BB.g0001CC.g0001DD.");
        y.years(1);
        Check.same("not one with three names", y.nameOf(4, 3), 2);
        NameBenches z = of("Rp1200p0900s01g0100A.c0A.g0001BB.g0001CC.g0001DD.");
        z.years(1);
        states(z, "nobody has room", 3, 0, 0, 0);
        NameBenches t = of("Rp1200p1200s01g0100A.c0A.");
        t.years(1);
        states(t, "nobody is younger", 3);
        NameBenches u = of("Rp1000p0500s01g0001BB.y1g0001CC.g0001DD.g0100A.c0A.");
        u.years(2);
        states(u, "a name that ended before it in this year made room", 2, 0, 0, 4, 0);
        NameBenches v = of("Rp1000p0500s01g0100A.g0001BB.y1g0001CC.g0001DD.c0A.");
        v.years(2);
        states(v, "a name that ends behind it in this year makes no room yet", 3, 2, 0, 0);
        NameBenches w = of("Rp1100p0900s01g0100A.g0100B.g0100C.c0A.c0B.c0C.g0001D.");
        w.years(2);
        states(w, "the heir has no room for the third", 4, 4, 3, 0, 0, 0);
    }

    private static void yearsHandOnWithForty() {
        NameBenches x = of("Rp0100p0000p0011p0011s11s01");
        for (int i = 0; i < 38; i++) {
            x.give(2, 3, 1, A);
            x.years(1);
        }
        x.set(2, 0);
        x.give(1, 0, 1, C);
        x.give(1, 0, 1, D);
        x.set(1, 9);
        Check.same("40 names", x.about(1), 40);
        x.call(0, 1, C);
        Check.same("years with 40", x.years(1), 2);
        Check.same("outgrown, not handed on", x.nameOf(38, 6), 3);
        Check.same("still 40", x.about(1), 40);
        Check.same("none is handed on", x.about(6), 0);
        x.undo();
        x.undo();
        x.undo();
        x.undo();
        x.set(1, 9);
        x.call(0, 1, C);
        Check.same("years with 39", x.years(1), 1);
        Check.same("handed on", x.nameOf(38, 6), 4);
        Check.same("the 40th", x.nameOf(39, 3), 1);
    }

    private static void set() {
        NameBenches x = new NameBenches();
        for (int what = 0; what < 3; what++) {
            int w = what;
            Check.same("set to 9", x.set(w, 9), 3);
            Check.same("is 9", x.about(12 + w), 9);
            Check.same("set to 1", x.set(w, 1), 9);
            refuses(x, "set to 10", ARGUMENT, () -> x.set(w, 10));
            refuses(x, "set to -1", ARGUMENT, () -> x.set(w, -1));
            refuses(x, "set to most", ARGUMENT, () -> x.set(w, MOST));
            refuses(x, "set to least", ARGUMENT, () -> x.set(w, LEAST));
        }
        refuses(x, "set 0 to 0", ARGUMENT, () -> x.set(0, 0));
        refuses(x, "set 1 to 0", ARGUMENT, () -> x.set(1, 0));
        Check.same("set 2 to 0", x.set(2, 0), 1);
        Check.same("the same value is an action too", x.set(2, 0), 0);
        Check.same("undo", x.undo(), 7);
        for (int bad : new int[] {-1, 3, LEAST, MOST}) {
            refuses(x, "set " + bad, ARGUMENT, () -> x.set(bad, 3));
        }
    }

    private static void undo() {
        NameBenches x = new NameBenches();
        Check.fails("undo of nothing", STATE, () -> x.undo());
        String[] was = new String[21];
        for (int i = 0; i < 20; i++) {
            was[i] = all(x);
            if (i < 2) {
                x.person(10 + i, 0, 0);
            } else if (i < 5) {
                x.give(0, 1, 1, i);
            } else if (i < 12) {
                x.call(i % 3, 1, 2 + i % 3);
            } else if (i < 14) {
                x.years(1);
            } else {
                x.sit(1, i % 4);
                x.undo();
                x.set(1, i % 4 + 1);
            }
        }
        x.append('R');
        x.save(1);
        for (int i = 19; i >= 6; i--) {
            Check.same("undo of action " + i, x.undo(), i - 6);
            Check.that("as before action " + i, was[i].equals(all(x)));
        }
        Check.fails("a 15th undo", STATE, () -> x.undo());
        Check.same("the text stays", x.clearText(), 1);
        Check.same("the slot stays", x.restore(1), 3);
        x.set(0, 1);
        x.years(1);
        Check.same("undo behind undos", x.undo(), 1);
        Check.same("undo behind undos", x.undo(), 0);
    }

    // ---- 19 to 23

    private static void why() {
        NameBenches x = of("Rp1000p1000p1011p1001g0001A.g0001B.g0001C.");
        String before = all(x);
        Check.same("1", x.why(1, 1, 1, A), 1);
        Check.same("2", x.why(2, 1, 1, A), 2);
        Check.same("3", x.why(0, 1, 1, A), 3);
        Check.same("4", x.why(1, 0, 1, A), 4);
        Check.same("0", x.why(1, 0, 1, D), 0);
        Check.same("0 on the bench", x.why(3, 2, 1, A), 0);
        Check.that("why changes nothing", before.equals(all(x)));
        Check.fails("and is no action", STATE, () -> x.undo());
        for (int bad : new int[] {-1, 4, LEAST, MOST}) {
            Check.fails("why " + bad, BOUNDS, () -> x.why(bad, 1, 0, 0));
            Check.fails("why 0 " + bad, BOUNDS, () -> x.why(0, bad, 0, 0));
        }
        wrongCodes("why", (many, code) -> () -> x.why(0, 1, many, code));
    }

    private static void endsIn() {
        NameBenches y = of("Rp1000p0000s19g0100A.g0001B.");
        Check.same("outgrown", y.endsIn(0), 3);
        Check.same("forgotten", y.endsIn(1), 9);
        y.years(2);
        Check.same("outgrown next", y.endsIn(0), 1);
        Check.same("forgotten in 7", y.endsIn(1), 7);
        y.call(0, 1, B);
        Check.same("forgotten in 9", y.endsIn(1), 9);
        y.set(1, 1);
        Check.same("forgotten next", y.endsIn(1), 1);
        y.set(1, 9);
        y.years(4);
        Check.same("not alive", y.endsIn(0), 0);
        y.set(1, 2);
        Check.same("long due", y.endsIn(1), 1);
        y.set(1, 9);
        y.set(2, 0);
        Check.same("too old since long", y.endsIn(1), 1);
        for (int bad : new int[] {-1, 2, LEAST, MOST}) {
            Check.fails("endsIn " + bad, BOUNDS, () -> y.endsIn(bad));
        }
        NameBenches z = new NameBenches();
        z.person(0, 0, 0);
        z.person(0, 0, 0);
        for (int i = 0; i < 111; i++) {
            z.years(9);
        }
        z.set(2, 9);
        z.give(0, 1, 4, ZZZZ);
        Check.same("the bound of the year does not matter, old", z.endsIn(0), 1);
        z.person(5, 0, 0);
        z.give(0, 2, 4, ZZZZ - 1);
        Check.same("the bound of the year does not matter", z.endsIn(1), 3);
    }

    private static void bestName() {
        NameBenches x = of("Rp0100p0100p0111p0111g0001A.g0001BB.g0203A.");
        Check.same("C is in none", x.bestName(1, 0, 1), C);
        Check.same("CC is in none", x.bestName(1, 0, 2), 2 * 26 + 2);
        NameBenches y = of("Rp0100p0100p0001p0001p0002p0002p0003p0003"
            + "g0100ABCD.g0100EFGH.g0203IJKL.g0203MNOP.g0405QRST.g0405UVWX.g0607YZ.");
        Check.same("all letters are in one", y.bestName(1, 0, 1), A);
        Check.same("AA too", y.bestName(1, 0, 2), 0);
        Check.same("a code cannot be given", y.give(1, 0, 1, A), 0);
        Check.same("then it is B", y.bestName(0, 1, 1), B);
        Check.same("for two letters BB", y.bestName(0, 1, 2), 27);
        Check.same("three names", y.bestName(1, 0, 1), NONE);
        Check.same("oneself", y.bestName(0, 0, 1), NONE);
        NameBenches z = of("Rp0100p0010p0111");
        Check.same("strangers", z.bestName(0, 2, 1), NONE);
        for (int bad : new int[] {-1, 3, LEAST, MOST}) {
            Check.fails("bestName " + bad, BOUNDS, () -> z.bestName(bad, 1, 3));
            Check.fails("bestName 0 " + bad, BOUNDS, () -> z.bestName(0, bad, 3));
        }
        for (int bad : new int[] {0, 3, 4, -1, LEAST, MOST}) {
            Check.fails("bestName with " + bad, ARGUMENT, () -> z.bestName(0, 1, bad));
        }
        Check.fails("bestName is no action", STATE, () -> z.undo());
        bestNameAmongTaken();
    }

    private static void bestNameAmongTaken() {
        NameBenches x = new NameBenches();
        for (int p = 0; p < 12; p++) {
            x.person(1, 0, 0);
        }
        for (int code = 0; code < 26; code++) {
            x.give(11, code / 3, 1, code);
        }
        Check.same("every letter is taken", x.bestName(0, 10, 1), NONE);
        Check.same("two letters are not", x.bestName(0, 10, 2), 0);
        x.give(0, 10, 2, 0);
        Check.same("A is in two now, BB in one twice", x.bestName(0, 10, 2), 27);
        NameBenches y = of("Rp0000p0000s11");
        for (int i = 0; i < 40; i++) {
            y.give(0, 1, 1, A);
            y.years(1);
        }
        Check.same("40 names", y.bestName(0, 1, 2), NONE);
        NameBenches z = of("Rp0100p0100p0100p0100"
            + "g0001ACDE.g0001BABB.g0001FGHI.g0002JKLM.g0002NOPQ.g0002RSTU.g0003VWXY.g0003Z.");
        Check.same("a name with three Bs is one name with B", z.bestName(1, 0, 1), B);
        Check.same("BB", z.bestName(1, 0, 2), 27);
        z.years(3);
        Check.same("names that are not alive do not count", z.bestName(1, 0, 1), A);
    }

    private static void bestGiver() {
        NameBenches x = of("Rp0100p0100p0100s01");
        Check.same("nobody gave any", x.bestGiver(), NONE);
        x.give(2, 0, 1, A);
        Check.same("the only one", x.bestGiver(), 2);
        x.give(1, 0, 1, B);
        x.give(1, 0, 1, C);
        Check.same("whoever gave most", x.bestGiver(), 1);
        x.call(0, 1, A);
        Check.same("the greatest share", x.bestGiver(), 2);
        x.call(0, 1, B);
        Check.same("one of one before one of two", x.bestGiver(), 2);
        x.call(0, 1, C);
        Check.same("two of two before one of one", x.bestGiver(), 1);
        x.give(0, 1, 1, D);
        x.call(0, 1, D);
        x.give(0, 1, 1, Z);
        x.call(0, 1, Z);
        Check.same("the lowest", x.bestGiver(), 0);
        x.years(3);
        Check.same("those that were sticking count", x.bestGiver(), 0);
        NameBenches y = of("Rp0100p0100p0100s01g0001A.g0001B.g0001C.g0102D.g0102E.c0A.c0D.");
        Check.same("a half before a third", y.bestGiver(), 1);
        NameBenches z = of("Rp0100p0100p0100s01g0001A.g0200B.g0200C.");
        Check.same("whoever gave most, if higher", z.bestGiver(), 2);
        z.call(0, 1, A);
        Check.same("not with a lesser share", z.bestGiver(), 0);
    }

    private static void mixed() {
        NameBenches x = of("Rp0100p0101p0102g0100A.");
        Check.same("nobody", x.mixed(), NONE);
        x.call(0, 1, A);
        Check.same("a use is no mix", x.mixed(), NONE);
        x.call(2, 1, A);
        Check.same("the only one", x.mixed(), 2);
        x.call(1, 1, A);
        Check.same("the lowest", x.mixed(), 1);
        x.call(2, 1, A);
        Check.same("most often", x.mixed(), 2);
    }

    // ---- 24 to 27

    private static void runScript() {
        NameBenches x = of("Rp0100p0101s01g0100A.");
        String before = all(x);
        Check.same("all succeed", x.runScript(3, 200000_800001_300009L), NONE);
        Check.same("in their order", x.runScript(3, 800001_200000_300009L), 0);
        Check.same("the second fails", x.runScript(3, 200000_800002_999999L), 1);
        Check.same("the third fails", x.runScript(3, 200000_800001_300000L), 2);
        Check.same("zeros before it", x.runScript(2, 800000L), 0);
        Check.same("one", x.runScript(1, 800000L), NONE);
        Check.same("no digits", x.runScript(1, 0L), 0);
        Check.that("runScript changes nothing", before.equals(all(x)));
        Check.fails("and is no action", STATE, () -> x.undo());
        for (int bad : new int[] {0, 4, -1, LEAST, MOST}) {
            Check.fails("runScript " + bad, ARGUMENT, () -> x.runScript(bad, 0L));
        }
        Check.fails("negative", ARGUMENT, () -> x.runScript(3, -1L));
        Check.fails("the least", ARGUMENT, () -> x.runScript(3, Long.MIN_VALUE));
        Check.fails("7 digits", ARGUMENT, () -> x.runScript(1, 1000000L));
        Check.same("6 digits", x.runScript(1, 999999L), 0);
        Check.fails("13 digits", ARGUMENT, () -> x.runScript(2, 1000000000000L));
        Check.fails("19 digits", ARGUMENT, () -> x.runScript(3, 1000000000000000000L));
        Check.same("18 digits", x.runScript(3, 999999999999999999L), 0);
        Check.fails("the most", ARGUMENT, () -> x.runScript(3, Long.MAX_VALUE));
    }

    private static void runScriptGroups() {
        NameBenches x = of("Rp0100p0101p0012p0012s01g0100A.c0A.g0203B.g0001C.y1");
        String good = "101250 110250 200000 210000 220100 300001 300009 400003 410001 500009 510009 520000 "
            + "600001 600000 620000 700000 710010 710210 700200 720130 800001 800000 900001 901000 902000";
        for (String group : good.split(" ")) {
            Check.same("runScript " + group, x.runScript(1, Long.parseLong(group)), NONE);
        }
        String bad = "000000 000001 100250 102250 140250 104250 110000 101251 101260 101990 "
            + "230000 240000 290000 202600 200300 200010 200001 300000 310001 301001 300101 300011 "
            + "440000 400004 400013 400103 401003 500000 510000 530001 501001 500101 500011 "
            + "600002 640000 601000 600100 600010 700010 740000 702600 700040 700001 730000 "
            + "800002 800100 801000 810000 900000 903000 940000 900011 900101 999999";
        for (String group : bad.split(" ")) {
            Check.same("runScript " + group, x.runScript(1, Long.parseLong(group)), 0);
        }
        Check.same("a name is given in the copy", x.runScript(3, 110250_620000_903000L), NONE);
        Check.same("by these letters", x.runScript(2, 110250_702500L), NONE);
        Check.same("sits in the copy", x.runScript(2, 410003_730210L), NONE);
        Check.same("sits no more where it was", x.runScript(2, 410003_710210L), 1);
        Check.same("the state in the copy", x.runScript(3, 300009_900002_901002L), NONE);
        Check.same("another state", x.runScript(3, 300009_900003_901002L), 1);
        NameBenches y = of("Rp0100p0100p0010p0001g0001A.g0003A.");
        Check.same("sit", y.runScript(1, 400001L), NONE);
        Check.same("sit that throws", y.runScript(1, 410001L), 0);
        NameBenches z = new NameBenches();
        for (int i = 0; i < 111; i++) {
            z.years(9);
        }
        Check.same("a year above 999", z.runScript(1, 300001L), 0);
        Check.same("nobody is there", z.runScript(1, 600000L), 0);
    }

    /** The turns done by hand with the calls, where the program does them by itself. */
    private static int turns(NameBenches x, long seed, int m) {
        long r = seed;
        int mixes = x.about(9);
        for (int i = 0; i < m; i++) {
            r = r * 6364136223846793005L + 1442695040888963407L;
            int kind = (int) (r >>> 33);
            try {
                turn(x, kind % 16, kind / 16);
            } catch (IllegalArgumentException | IllegalStateException | IndexOutOfBoundsException e) {
                continue;
            }
        }
        return 10000 * (x.about(2) + x.about(3)) + 100 * x.about(0) + x.about(9) - mixes;
    }

    private static void turn(NameBenches x, int kind, int q) {
        if (kind < 2) {
            x.person(q % 60, q / 64 % 6, q / 512 % 4);
        } else if (kind < 6) {
            x.give(q % 12, q / 16 % 12, 1, q / 256 % 8);
        } else if (kind < 12) {
            x.call(q % 4, 1, q / 4 % 8);
        } else if (kind == 12) {
            x.sit(q % 12, q / 16 % 4);
        } else if (kind == 13) {
            x.set(q % 3, 1 + q / 4 % 4);
        } else {
            x.years(1 + q % 2);
        }
    }

    private static void simulate() {
        String text = "Rp0100p0101p0111p0012p0003p0220p0223p0310p0132g0001A.g0001B.g0302C.g0506A.g0307D.s19s29";
        long[] seeds = {0, 1, -1, 99, Long.MIN_VALUE, Long.MAX_VALUE, 123456789012345L, -987654321L};
        for (long seed : seeds) {
            for (int m = 1; m <= 60; m += m < 4 ? 1 : 7) {
                NameBenches x = of(text);
                String before = all(x);
                int got = x.simulate(seed, m);
                Check.that("simulate changes nothing", before.equals(all(x)));
                Check.fails("and is no action", STATE, () -> x.undo());
                Check.same("simulate " + seed + " " + m, got, turns(x, seed, m));
            }
        }
        NameBenches x = new NameBenches();
        Check.same("60 turns of a new one", x.simulate(5, 60), turns(new NameBenches(), 5, 60));
        for (int bad : new int[] {0, 61, -1, LEAST, MOST}) {
            Check.fails("simulate " + bad, ARGUMENT, () -> x.simulate(1, bad));
        }
        NameBenches y = of("Rp0100p0101g0100A.c1A.c1A.");
        for (long seed : seeds) {
            Check.same("earlier mixes do not count", y.simulate(seed, 30), turns(of("Rp0100p0101g0100A."), seed, 30));
        }
    }

    private static void save() {
        NameBenches x = of("Rp0100p0101g0100A.");
        for (int bad : new int[] {-1, 2, LEAST, MOST}) {
            Check.fails("save " + bad, BOUNDS, () -> x.save(bad));
        }
        String before = all(x);
        Check.same("save", x.save(0), 1);
        Check.that("save changes nothing", before.equals(all(x)));
        Check.fails("and is no action", STATE, () -> x.undo());
        Check.fails("the other slot is empty", STATE, () -> x.restore(1));
        x.give(0, 1, 1, A);
        Check.same("save 1", x.save(1), 2);
        Check.same("remembered states stay", x.undo(), 0);
        Check.same("restore 0", x.restore(0), 1);
        Check.same("restore 1", x.restore(1), 2);
        x.call(1, 1, A);
        Check.same("save again", x.save(0), 2);
        x.restore(0);
        Check.same("the later one", x.about(8), 1);
    }

    private static void restore() {
        NameBenches x = of("Rp0100p0101g0100A.");
        for (int bad : new int[] {-1, 2, LEAST, MOST}) {
            Check.fails("restore " + bad, BOUNDS, () -> x.restore(bad));
        }
        refuses(x, "restore of nothing", STATE, () -> x.restore(0));
        x.set(1, 7);
        x.call(3, 1, A);
        x.call(1, 1, A);
        String kept = all(x);
        x.save(1);
        x.person(5, 5, 2);
        x.give(0, 1, 1, B);
        x.years(5);
        x.append('Q');
        Check.same("restore", x.restore(1), 1);
        Check.that("as it was", kept.equals(all(x)));
        Check.fails("nothing is remembered", STATE, () -> x.undo());
        Check.same("the text stays", x.clearText(), 19);
        x.years(5);
        Check.same("restore is no action, years is", x.undo(), 0);
        x.years(5);
        Check.same("the slot keeps it", x.restore(1), 1);
        Check.that("as it was again", kept.equals(all(x)));
        put(x, "R");
        x.load();
        refuses(x, "restore behind load", STATE, () -> x.restore(1));
    }

    /** Two states behind the same one, with other numbers of all kinds, are restored by turns. */
    private static void restoreOfEachNumber() {
        NameBenches x = new NameBenches();
        x.save(0);
        x.person(50, 5, 3);
        x.person(5, 5, 2);
        x.give(0, 1, 4, ZZZZ);
        x.set(0, 1);
        x.call(2, 4, ZZZZ);
        calls(x, 2, 3, 4, ZZZZ);
        x.call(0, 1, A);
        x.save(1);
        String later = all(x);
        x.restore(0);
        x.person(10, 0, 0);
        x.person(11, 0, 1);
        x.person(12, 1, 1);
        x.years(2);
        x.give(1, 0, 2, AB);
        x.set(1, 5);
        x.set(2, 2);
        x.call(0, 2, AB);
        x.call(1, 2, AB);
        calls(x, 4, 3, 1, Z);
        x.give(0, 0, 1, A);
        x.save(0);
        String other = all(x);
        for (int i = 0; i < 3; i++) {
            x.restore(1);
            Check.that("all numbers of slot 1", later.equals(all(x)));
            x.restore(0);
            Check.that("all numbers of slot 0", other.equals(all(x)));
        }
        Check.same("who was called so", x.personOf(1, 7), 1);
        Check.same("whose name it was", x.personOf(0, 8), 1);
        Check.same("the giver", x.nameOf(0, 2), 1);
        Check.same("the latest use", x.nameOf(0, 5), 2);
        Check.same("not sticking", x.nameOf(0, 7), 0);
        x.restore(1);
        Check.same("sticking", x.nameOf(0, 7), 1);
    }
}
