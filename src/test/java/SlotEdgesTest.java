/** Promises 26 and 27: each sentence that names an edge has a test of its own. */
public final class SlotEdgesTest extends TestBase {
    private static final String SAVE = "Promise 26, save";
    private static final String RESTORE = "Promise 27, restore";

    public static void main(String[] args) {
        saveRange();
        saveAnswers();
        saveIsNoAction();
        restoreRange();
        restoreOfNothing();
        restoreAnswers();
        restoreReplaces();
        restoreForgets();
        slotKeepsIt();
        Check.end();
    }

    // ---- Promise 26

    private static void saveRange() {
        String words = "Throws `IndexOutOfBoundsException` if there is no such save slot";
        for (int bad : new int[] {-1, 2, LEAST, MOST}) {
            Check.edge(SAVE, words, () -> refusesWholly("save " + bad, BOUNDS, x -> x.save(bad)));
        }
        for (int slot = 0; slot < 2; slot++) {
            int which = slot;
            Check.edge(SAVE, "0 or 1", () -> {
                NameBenches x = of("Rp1203");
                x.save(which);
                x.restore(which);
                Check.same("the person", x.personOf(0, 0), 12);
                Check.fails("the other slot is still empty", STATE, () -> x.restore(1 - which));
            });
        }
    }

    private static void saveAnswers() {
        String words = "Returns the names so far.";
        Check.edge(SAVE, words, () -> Check.same("none", new NameBenches().save(0), 0));
        Check.edge(SAVE, words, () -> Check.same("one that is forgotten", of("Rp0000p0000g0001A.y3").save(1), 1));
        Check.edge(SAVE, words, () -> {
            NameBenches x = of("Rp0000p0000s11");
            for (int i = 0; i < 40; i++) {
                x.give(0, 1, 1, A);
                x.years(1);
            }
            Check.same("forty", x.save(0), 40);
            Check.same("forty again", x.restore(0), 40);
        });
        Check.edge(SAVE, "Stores the present state in a save slot.", () -> {
            NameBenches x = of("Rp1203");
            x.save(0);
            x.set(0, 9);
            x.save(0);
            x.set(0, 8);
            x.restore(0);
            Check.same("the later one", x.about(12), 9);
        });
    }

    private static void saveIsNoAction() {
        Check.edge(SAVE, "The methods in the section \"actions\" change the state", () -> {
            NameBenches x = busy();
            String before = all(x);
            x.save(1);
            Check.that("the state stays", before.equals(all(x)));
            Check.same("the last action is undone", x.undo(), 2);
        });
    }

    // ---- Promise 27

    private static void restoreRange() {
        String words = "Throws `IndexOutOfBoundsException` if there is no such save slot";
        for (int bad : new int[] {-1, 2, LEAST, MOST}) {
            Check.edge(RESTORE, words, () -> refusesWholly("restore " + bad, BOUNDS, x -> x.restore(bad)));
        }
    }

    private static void restoreOfNothing() {
        String words = "Throws `IllegalStateException` if nothing has been saved in it since the last load";
        Check.edge(RESTORE, words, () -> Check.fails("slot 0 of a new one", STATE, () -> new NameBenches().restore(0)));
        Check.edge(RESTORE, words, () -> Check.fails("slot 1 of a new one", STATE, () -> new NameBenches().restore(1)));
        Check.edge(RESTORE, words, () -> refusesWholly("the empty one of two", STATE, x -> x.restore(1)));
        for (int slot = 0; slot < 2; slot++) {
            int which = slot;
            Check.edge(RESTORE, words, () -> {
                NameBenches x = of("Rp1203");
                x.save(0);
                x.save(1);
                x.load();
                Check.fails("saved before a load", STATE, () -> x.restore(which));
                x.save(which);
                Check.same("saved behind it", x.restore(which), 0);
            });
            Check.edge(RESTORE, words, () -> {
                NameBenches x = busy();
                x.save(which);
                Check.fails("load of half a command", STATE, x::load);
                Check.same("a load that throws is none", x.restore(which), 3);
            });
        }
    }

    private static void restoreAnswers() {
        String words = "Returns the names so far then.";
        Check.edge(RESTORE, words, () -> {
            NameBenches x = new NameBenches();
            x.save(0);
            x.person(9, 0, 0);
            x.person(9, 0, 0);
            x.give(0, 1, 1, A);
            x.save(1);
            Check.same("none", x.restore(0), 0);
            Check.same("no people", x.about(0), 0);
            Check.same("one", x.restore(1), 1);
        });
    }

    private static void restoreReplaces() {
        String words = "Replaces the state by the one in a save slot";
        Check.edge(RESTORE, words, () -> {
            NameBenches x = of("Rp1200p0501s01g0100A.c0A.c1A.");
            x.call(3, 1, Z);
            x.give(0, 0, 1, A);
            String saved = all(x);
            x.save(1);
            x.person(50, 5, 3);
            x.sit(1, 0);
            x.give(2, 2, 1, A);
            calls(x, 3, 0, 1, A);
            x.call(2, 1, Z);
            x.years(1);
            x.set(0, 9);
            x.set(1, 8);
            x.set(2, 7);
            x.restore(1);
            Check.that("every number is as it was", saved.equals(all(x)));
        });
        Check.edge(RESTORE, words, () -> {
            NameBenches x = of("Rp1000p1000p1000s01");
            x.give(0, 1, 1, A);
            x.call(0, 1, A);
            String saved = all(x);
            x.save(0);
            x.undo();
            x.undo();
            x.give(2, 0, 4, ZZZZ);
            x.restore(0);
            Check.that("a name of the same number, with another giver, is replaced wholly", saved.equals(all(x)));
        });
        Check.edge(RESTORE, words, () -> {
            NameBenches x = new NameBenches();
            x.save(1);
            x.person(50, 5, 3);
            x.save(0);
            x.restore(1);
            x.person(10, 1, 2);
            x.restore(0);
            Check.same("the age of a person of the same number", x.personOf(0, 0), 50);
            Check.same("the family", x.personOf(0, 1), 5);
            Check.same("the bench", x.personOf(0, 2), 3);
        });
        Check.edge(RESTORE, words, () -> {
            NameBenches x = new NameBenches();
            x.save(0);
            add(x, "Ry");
            x.restore(0);
            Check.same("the text stays", x.errorPosition(), 2);
        });
    }

    private static void restoreForgets() {
        String words = "and forgets all remembered states";
        Check.edge(RESTORE, words, () -> {
            NameBenches x = busy();
            x.restore(0);
            Check.fails("undo", STATE, x::undo);
        });
        Check.edge(RESTORE, words, () -> {
            NameBenches x = new NameBenches();
            x.save(0);
            for (int i = 0; i < 20; i++) {
                x.years(1);
            }
            x.restore(0);
            for (int i = 0; i < 14; i++) {
                x.years(1);
            }
            for (int i = 13; i >= 0; i--) {
                Check.same("undo", x.undo(), i);
            }
            Check.same("the first year", x.about(7), 0);
            Check.fails("no more", STATE, x::undo);
        });
        Check.edge(RESTORE, "load and restore are not actions.", () -> {
            NameBenches x = new NameBenches();
            x.save(0);
            x.restore(0);
            x.restore(0);
            Check.fails("undo", STATE, x::undo);
        });
    }

    private static void slotKeepsIt() {
        String words = "The save slot keeps it.";
        Check.edge(RESTORE, words, () -> {
            NameBenches x = busy();
            String saved = all(x);
            x.save(1);
            for (int i = 0; i < 3; i++) {
                x.restore(1);
                Check.that("again", saved.equals(all(x)));
                x.call(1, 1, A);
                x.years(9);
                x.person(1, 1, 1);
            }
        });
        Check.edge(RESTORE, words, () -> {
            NameBenches x = new NameBenches();
            x.set(0, 4);
            x.save(0);
            x.set(0, 5);
            x.save(1);
            x.restore(0);
            Check.same("slot 0", x.about(12), 4);
            x.restore(1);
            Check.same("slot 1", x.about(12), 5);
        });
    }
}
