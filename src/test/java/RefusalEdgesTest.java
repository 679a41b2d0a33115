import java.util.function.Consumer;

/** The section EXCEPTIONS of the terms: each sentence, for each method that throws, has a test of its own. */
public final class RefusalEdgesTest extends TestBase {
    public static void main(String[] args) {
        textChangesNothing();
        askingChangesNothing();
        actionsChangeNothing();
        wouldBeChangesNothing();
        slotsChangeNothing();
        firstOfText();
        firstOfAsking();
        firstOfPerson();
        firstOfActions();
        firstOfWouldBe();
        firstOfSlots();
        Check.end();
    }

    // ---- A call that throws an exception changes nothing

    private static void nothing(String promise, Class<? extends RuntimeException> due, Consumer<NameBenches> call) {
        Check.edge(promise, "A call that throws an exception changes nothing.", () -> refusesWholly(promise, due, call));
    }

    private static void textChangesNothing() {
        nothing("Promise 2, append", ARGUMENT, x -> x.append(-1));
        nothing("Promise 2, append", ARGUMENT, x -> x.append(256));
        nothing("Promise 5, load", STATE, NameBenches::load);
        String promise = "Promise 2, append";
        Check.edge(promise, "A call that throws an exception changes nothing.", () -> {
            NameBenches x = new NameBenches();
            add(x, "R" + "y1".repeat(58) + "s00");
            Check.fails("a 121st", STATE, () -> x.append('R'));
            Check.same("the text is as it was", x.load(), 1);
            Check.same("to its end", x.clearText(), 120);
        });
    }

    private static void askingChangesNothing() {
        nothing("Promise 6, about", ARGUMENT, x -> x.about(15));
        nothing("Promise 7, personOf", BOUNDS, x -> x.personOf(3, 0));
        nothing("Promise 7, personOf", ARGUMENT, x -> x.personOf(0, 9));
        nothing("Promise 8, nameOf", BOUNDS, x -> x.nameOf(3, 0));
        nothing("Promise 8, nameOf", ARGUMENT, x -> x.nameOf(0, 8));
        nothing("Promise 9, letter", BOUNDS, x -> x.letter(3, 0));
        nothing("Promise 9, letter", BOUNDS, x -> x.letter(0, -1));
        nothing("Promise 10, roll", ARGUMENT, x -> x.roll(-1));
        nothing("Promise 11, meant", BOUNDS, x -> x.meant(4, 1, A, 0));
        nothing("Promise 11, meant", ARGUMENT, x -> x.meant(1, 1, 26, 0));
        nothing("Promise 11, meant", ARGUMENT, x -> x.meant(1, 1, A, 2));
    }

    private static void actionsChangeNothing() {
        nothing("Promise 12, person", BOUNDS, x -> x.person(9, 6, 0));
        nothing("Promise 12, person", BOUNDS, x -> x.person(9, 0, 4));
        nothing("Promise 12, person", ARGUMENT, x -> x.person(100, 0, 0));
        nothing("Promise 13, sit", BOUNDS, x -> x.sit(3, 0));
        nothing("Promise 13, sit", BOUNDS, x -> x.sit(0, 4));
        nothing("Promise 14, give", BOUNDS, x -> x.give(3, 0, 1, Z));
        nothing("Promise 14, give", ARGUMENT, x -> x.give(1, 0, 5, Z));
        nothing("Promise 14, give", ARGUMENT, x -> x.give(1, 0, 1, 26));
        nothing("Promise 15, call", BOUNDS, x -> x.call(4, 1, A));
        nothing("Promise 15, call", ARGUMENT, x -> x.call(1, 1, 26));
        nothing("Promise 16, years", ARGUMENT, x -> x.years(0));
        nothing("Promise 17, set", ARGUMENT, x -> x.set(0, 0));
        nothing("Promise 17, set", ARGUMENT, x -> x.set(3, 1));
    }

    private static void wouldBeChangesNothing() {
        nothing("Promise 19, why", BOUNDS, x -> x.why(3, 0, 1, Z));
        nothing("Promise 19, why", ARGUMENT, x -> x.why(1, 0, 1, 26));
        nothing("Promise 20, endsIn", BOUNDS, x -> x.endsIn(3));
        nothing("Promise 21, bestName", BOUNDS, x -> x.bestName(0, 3, 1));
        nothing("Promise 21, bestName", ARGUMENT, x -> x.bestName(0, 1, 3));
        nothing("Promise 24, runScript", ARGUMENT, x -> x.runScript(4, 0L));
        nothing("Promise 24, runScript", ARGUMENT, x -> x.runScript(1, 1000000L));
        nothing("Promise 25, simulate", ARGUMENT, x -> x.simulate(1, 61));
    }

    private static void slotsChangeNothing() {
        nothing("Promise 26, save", BOUNDS, x -> x.save(2));
        nothing("Promise 27, restore", BOUNDS, x -> x.restore(2));
        nothing("Promise 27, restore", STATE, x -> x.restore(1));
    }

    // ---- If several exceptions apply

    private static void first(String promise, Class<? extends RuntimeException> due, Runnable call) {
        Check.edge(promise, "If several exceptions apply to a call, the one that its description names first is thrown.",
            () -> Check.fails(promise, due, call));
    }

    private static void firstOfText() {
        NameBenches full = new NameBenches();
        add(full, "R".repeat(120));
        first("Promise 2, append", ARGUMENT, () -> full.append(-1));
        first("Promise 2, append", ARGUMENT, () -> full.append(256));
    }

    private static void firstOfAsking() {
        first("Promise 7, personOf", BOUNDS, () -> busy().personOf(3, 9));
        first("Promise 7, personOf", BOUNDS, () -> busy().personOf(-1, -1));
        first("Promise 8, nameOf", BOUNDS, () -> busy().nameOf(3, 8));
        first("Promise 8, nameOf", BOUNDS, () -> busy().nameOf(-1, -1));
        first("Promise 11, meant", BOUNDS, () -> busy().meant(4, 0, A, 0));
        first("Promise 11, meant", BOUNDS, () -> busy().meant(4, 1, 26, 0));
        first("Promise 11, meant", BOUNDS, () -> busy().meant(-1, 1, A, 2));
    }

    private static void firstOfPerson() {
        first("Promise 12, person", BOUNDS, () -> busy().person(100, 6, 0));
        first("Promise 12, person", BOUNDS, () -> busy().person(-1, 0, 4));
        NameBenches twelve = of("R" + "p1000".repeat(12));
        first("Promise 12, person", BOUNDS, () -> twelve.person(9, 6, 0));
        first("Promise 12, person", BOUNDS, () -> twelve.person(9, 0, -1));
        first("Promise 12, person", BOUNDS, () -> twelve.person(100, -1, 0));
        first("Promise 12, person", ARGUMENT, () -> twelve.person(100, 0, 0));
        first("Promise 12, person", ARGUMENT, () -> twelve.person(-1, 0, 0));
    }

    private static void firstOfActions() {
        first("Promise 14, give", BOUNDS, () -> busy().give(3, 0, 0, 0));
        first("Promise 14, give", BOUNDS, () -> busy().give(0, 3, 1, 26));
        first("Promise 14, give", ARGUMENT, () -> busy().give(0, 0, 1, 26));
        first("Promise 15, call", BOUNDS, () -> busy().call(4, 0, 0));
        first("Promise 15, call", BOUNDS, () -> busy().call(-1, 1, 26));
        NameBenches late = new NameBenches();
        years(late, 999);
        first("Promise 16, years", ARGUMENT, () -> late.years(10));
        first("Promise 16, years", ARGUMENT, () -> late.years(MOST));
        first("Promise 16, years", ARGUMENT, () -> late.years(0));
    }

    private static void firstOfWouldBe() {
        first("Promise 19, why", BOUNDS, () -> busy().why(3, 0, 5, 0));
        first("Promise 19, why", BOUNDS, () -> busy().why(0, 3, 1, 26));
        first("Promise 21, bestName", BOUNDS, () -> busy().bestName(3, 0, 0));
        first("Promise 21, bestName", BOUNDS, () -> busy().bestName(0, 3, 3));
    }

    private static void firstOfSlots() {
        first("Promise 27, restore", BOUNDS, () -> new NameBenches().restore(2));
        first("Promise 27, restore", BOUNDS, () -> new NameBenches().restore(-1));
    }
}
