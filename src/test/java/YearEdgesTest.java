/** The section YEARS of the terms: each sentence that names an edge has a test of its own. */
public final class YearEdgesTest extends TestBase {
    private static final String YEARS = "YEARS, promise 16";

    public static void main(String[] args) {
        goBy();
        forgotten();
        forgottenByLatestUse();
        forgottenFirst();
        outgrown();
        handedOnWhenSticking();
        handedOnToYounger();
        handedOnBeside();
        handedOnWithRoom();
        handedOnToOldest();
        newName();
        fortyNames();
        notLookedAt();
        byNumbers();
        Check.end();
    }

    private static void goBy() {
        String words = "When a year goes by, the year becomes 1 more, and all people are 1 year older.";
        Check.edge(YEARS, words, () -> Check.same("the year", of("Ry1").about(7), 1));
        Check.edge(YEARS, words, () -> Check.same("nine years", of("Ry9").about(7), 9));
        Check.edge(YEARS, words, () -> {
            NameBenches x = of("Rp0000p5053y1");
            Check.same("the first person", x.personOf(0, 0), 1);
            Check.same("the last person", x.personOf(1, 0), 51);
        });
        Check.edge(YEARS, words, () -> Check.same("nine years older", of("Rp0000y9").personOf(0, 0), 9));
        Check.edge(YEARS, words, () -> Check.same("older than 99", of("Rp9900y1").personOf(0, 0), 100));
        Check.edge(YEARS, words, () -> Check.same("who comes later", of("Ry5p0000y1").personOf(0, 0), 1));
    }

    // ---- forgotten

    private static void forgotten() {
        String words = "if its latest use is setting 1 years or more ago, it is forgotten";
        for (int setting = 1; setting <= 9; setting++) {
            String text = "Rp0000p0000s29s1" + setting + "g0001A.";
            int behind = setting;
            Check.edge(YEARS, words, () -> {
                NameBenches x = of(text);
                Check.same("a year too few", behind == 1 ? 0 : x.years(behind - 1), 0);
                states(x, "a year too few", NEW);
                Check.same("the year", x.years(1), 1);
                states(x, "the year", FORGOTTEN);
            });
        }
        Check.edge(YEARS, words, () -> {
            NameBenches x = of("Rp0000p0000s29s19g0001A.y5s12");
            states(x, "a lower setting alone", NEW);
            x.years(1);
            states(x, "more years ago than the setting", FORGOTTEN);
        });
    }

    private static void forgottenByLatestUse() {
        String words = "if its latest use is setting 1 years or more ago, it is forgotten";
        Check.edge(YEARS, words, () -> states(of("Rp0000p0000g0001A.y2c0A.y2"), "two years behind the use", NEW));
        Check.edge(YEARS, words, () -> states(of("Rp0000p0000g0001A.y2c0A.y3"), "three years behind the use", FORGOTTEN));
        Check.edge(YEARS, words, () -> states(of("Rp0000p0000y4g0001A.y2"), "two years behind the giving", NEW));
        Check.edge(YEARS, words, () -> states(of("Rp0000p0000y4g0001A.y3"), "three years behind the giving", FORGOTTEN));
        Check.edge(YEARS, words, () -> {
            NameBenches x = of("Rp0000p0000s01g0001A.c0A.y3");
            states(x, "one that was sticking", FORGOTTEN);
            Check.same("it was sticking", x.nameOf(0, 7), 1);
        });
    }

    private static void forgottenFirst() {
        String words = "otherwise, if whoever has it is older by now";
        Check.edge(YEARS, words, () -> states(of("Rp1200p0500s01s11g0100A.c0A.y1"), "both, sticking", FORGOTTEN));
        Check.edge(YEARS, words, () -> states(of("Rp1200p0500s11g0100A.y1"), "both, new", FORGOTTEN));
        Check.edge(YEARS, words, () -> Check.same("counted once", of("Rp1200p0500s01s11g0100A.c0A.").years(1), 1));
    }

    // ---- outgrown

    private static void outgrown() {
        String words = "if whoever has it is older by now than 4 * setting 2 * the letters of the name (how many), it is outgrown";
        for (int setting = 0; setting <= 9; setting++) {
            for (int many = 1; many <= 4; many++) {
                int which = setting;
                int letters = many;
                Check.edge(YEARS, words, () -> outgrownBehind(which, letters));
            }
        }
        Check.edge(YEARS, words, () -> states(of("Rp5000p5000g0001A."), "much older, but no year went by", NEW));
        Check.edge(YEARS, words, () -> states(of("Rp5000p5000s29g0001AB.y1s20"), "the setting alone", NEW));
        Check.edge(YEARS, words, () -> states(of("Rp5000p0000g0001A.y1"), "it is not the age of the giver", NEW));
        Check.edge(YEARS, words,
            () -> states(of("Rp1300p1300s01g0100A.c0A.y1"), "sticking, without a younger one", OUTGROWN));
    }

    /** The name is given in the year before that in which its bearer is as old as it allows. */
    private static void outgrownBehind(int setting, int many) {
        int bound = 4 * setting * many;
        int age = Math.max(0, bound - 1);
        NameBenches x = new NameBenches();
        x.person(Math.min(age, 99), 0, 0);
        x.person(0, 0, 0);
        years(x, age - Math.min(age, 99));
        x.set(1, 9);
        x.set(2, setting);
        x.give(1, 0, many, 0);
        if (bound > 0) {
            Check.same("as old as it allows", x.years(1), 0);
            states(x, "as old as it allows", NEW);
        }
        Check.same("a year older", x.years(1), 1);
        states(x, "a year older", OUTGROWN);
    }

    // ---- handed on

    private static void handedOnWhenSticking() {
        String words = "A name that was sticking and is outgrown is handed on";
        Check.edge(YEARS, words, () -> states(of("Rp1200p0500s01g0100A.c0A.y1"), "sticking", HANDED_ON, NEW));
        Check.edge(YEARS, words, () -> states(of("Rp1200p0500s02g0100A.c0A.y1"), "new", OUTGROWN));
        Check.edge(YEARS, words, () -> {
            NameBenches x = of("Rp1200p0500s01g0100A.c0A.");
            Check.same("counted once", x.years(1), 1);
        });
    }

    private static void handedOnToYounger() {
        String words = "if there is a younger brother (with a lower age) of whoever has it";
        Check.edge(YEARS, words, () -> states(of("Rp1200p1100s01g0100A.c0A.y1"), "a year younger", HANDED_ON, NEW));
        Check.edge(YEARS, words, () -> states(of("Rp1200p1200s01g0100A.c0A.y1"), "of the same age", OUTGROWN));
        Check.edge(YEARS, words, () -> states(of("Rp1200p1300s01g0100A.c0A.y1"), "a year older", OUTGROWN));
        Check.edge(YEARS, words, () -> states(of("Rp1200p0010s01g0100A.c0A.y1"), "no brother", OUTGROWN));
        Check.edge(YEARS, words, () -> states(of("Rp0500p1200s01g0001A.c0A.y1"), "younger, with a lower number", HANDED_ON, NEW));
    }

    private static void handedOnBeside() {
        String words = "on the same bench, who has fewer than 3 names that are alive";
        for (int bench = 1; bench < 4; bench++) {
            String text = "Rp1200p050" + bench + "s01g0100A.c0A.y1";
            Check.edge(YEARS, words, () -> states(of(text), "another bench", OUTGROWN));
        }
        Check.edge(YEARS, words, () -> states(of("Rp1203p0503s01g0100A.c3A.y1"), "bench 3", HANDED_ON, NEW));
        Check.edge(YEARS, words, () -> states(of("Rp1200p0500s01g0100A.c0A.b011y1"), "gone from it", OUTGROWN));
        Check.edge(YEARS, words, () -> states(of("Rp1200p0501s01g0100A.c0A.b010y1"), "come to it", HANDED_ON, NEW));
    }

    private static void handedOnWithRoom() {
        String words = "who has fewer than 3 names that are alive";
        Check.edge(YEARS, words, () -> states(of("Rp1200p0500s01g0100A.c0A.g0001BB.g0001CC.g0001DD.y1"),
            "three names", OUTGROWN, NEW, NEW, NEW));
        Check.edge(YEARS, words, () -> states(of("Rp1200p0500s01g0100A.c0A.g0001BB.g0001CC.y1"),
            "two names", HANDED_ON, NEW, NEW, NEW));
        Check.edge(YEARS, words, () -> states(of("Rp0900p0500s01g0001BB.g0001CC.g0001DD.y2g0100A.c0A.y1y1"),
            "three names that are forgotten", FORGOTTEN, FORGOTTEN, FORGOTTEN, HANDED_ON, NEW));
    }

    private static void handedOnToOldest() {
        String oldest = "of several to the oldest one";
        heirIs(oldest, 2, "Rp1200p0500p0700p0600s01g0100A.c0A.y1");
        heirIs(oldest, 3, "Rp1200p0500p0600p0700s01g0100A.c0A.y1");
        heirIs(oldest, 1, "Rp1200p0700p0600p0500s01g0100A.c0A.y1");
        heirIs(oldest, 2, "Rp1200p1101p0500s01g0100A.c0A.y1");
        heirIs(oldest, 2, "Rp1200p1110p0500s01g0100A.c0A.y1");
        heirIs(oldest, 2, "Rp1200p1300p0500s01g0100A.c0A.y1");
        heirIs(oldest, 2, "Rp1200p1200p0500s01g0100A.c0A.y1");
        String lowest = "of several of those to the lowest";
        heirIs(lowest, 2, "Rp1200p0500p0700p0700s01g0100A.c0A.y1");
        heirIs(lowest, 0, "Rp0700p1200p0700s01g0001A.c0A.y1");
        heirIs(lowest, 1, "Rp0500p0700p1200p0700s01g0002A.c0A.y1");
        Check.edge(YEARS, oldest, () -> {
            NameBenches x = of("Rp1200p0700p0600s01g0100A.c0A.g0001BB.g0001CC.g0001DD.y1");
            Check.same("the oldest one that has room", x.nameOf(4, 3), 2);
        });
    }

    private static void heirIs(String words, int due, String text) {
        Check.edge(YEARS, words, () -> {
            NameBenches x = of(text);
            states(x, text, HANDED_ON, NEW);
            Check.same("whom it is handed on to by " + text, x.nameOf(1, 3), due);
        });
    }

    private static void newName() {
        NameBenches x = of("Rp2200p0500y2s01g0100ZA.c0ZA.c0ZA.y1");
        String words = "Then this name has the state 4, and that brother gets a new name with the same letters";
        Check.edge(YEARS, words, () -> states(x, "both", HANDED_ON, NEW));
        Check.edge(YEARS, words, () -> Check.same("how many letters", x.nameOf(1, 0), 2));
        Check.edge(YEARS, words, () -> Check.same("its code", x.nameOf(1, 1), 650));
        Check.edge(YEARS, words, () -> Check.same("that brother", x.nameOf(1, 3), 1));
        Check.edge(YEARS, words, () -> Check.same("the old one is still of whoever had it", x.nameOf(0, 3), 0));
        Check.edge(YEARS, words, () -> Check.same("with its uses", x.nameOf(0, 4), 2));
        String how = "which is new, given by whoever had it, without uses, in this year";
        Check.edge(YEARS, how, () -> Check.same("new", x.nameOf(1, 6), NEW));
        Check.edge(YEARS, how, () -> Check.same("never sticking", x.nameOf(1, 7), 0));
        Check.edge(YEARS, how, () -> Check.same("by whoever had it", x.nameOf(1, 2), 0));
        Check.edge(YEARS, how, () -> Check.same("counted as given", x.personOf(0, 5), 1));
        Check.edge(YEARS, how, () -> Check.same("without uses", x.nameOf(1, 4), 0));
        Check.edge(YEARS, how, () -> Check.same("in this year", x.nameOf(1, 5), 3));
        Check.edge(YEARS, how, () -> states(of("Rp1200p0500s01s12g0100A.c0A.y2"), "not forgotten by the old uses",
            HANDED_ON, NEW));
    }

    // ---- 40 names

    /** 0 has names by 1, its younger brother, that are sticking and due; the others, by strangers, are forgotten. */
    private static NameBenches due(int forgotten, int sticking) {
        NameBenches x = of("Rp0200p0000p0011p0011s01s11");
        for (int i = 0; i < forgotten; i++) {
            x.give(2, 3, 1, A);
            x.years(1);
        }
        x.set(1, 9);
        x.set(2, 0);
        for (int i = 0; i < sticking; i++) {
            x.give(1, 0, 1, i);
            x.call(0, 1, i);
        }
        Check.same("names", x.about(1), forgotten + sticking);
        Check.same("years", x.years(1), sticking);
        return x;
    }

    private static void fortyNames() {
        String words = "if 40 names were given, it is outgrown instead, and not handed on";
        Check.edge(YEARS, words, () -> {
            NameBenches x = due(38, 1);
            Check.same("with 39", x.nameOf(38, 6), HANDED_ON);
            Check.same("the 40th", x.nameOf(39, 3), 1);
        });
        Check.edge(YEARS, words, () -> {
            NameBenches x = due(39, 1);
            Check.same("with 40", x.nameOf(39, 6), OUTGROWN);
            Check.same("still 40", x.about(1), 40);
            Check.same("not handed on", x.about(6), 0);
            Check.same("the brother gets none", x.personOf(1, 3), 0);
        });
        Check.edge(YEARS, words, () -> {
            NameBenches x = due(37, 2);
            Check.same("the first is handed on", x.nameOf(37, 6), HANDED_ON);
            Check.same("as the 40th", x.nameOf(39, 1), A);
            Check.same("then the second is outgrown", x.nameOf(38, 6), OUTGROWN);
        });
    }

    // ---- not looked at any more

    private static void notLookedAt() {
        String words = "(It is not looked at any more in this year.)";
        Check.edge(YEARS, words, () -> {
            NameBenches x = of("Rp4000p3900s01g0100A.c0A.");
            Check.same("the younger one is too old too", x.years(1), 1);
            states(x, "this year", HANDED_ON, NEW);
            Check.same("and outgrows it in the next", x.years(1), 1);
            states(x, "the next year", HANDED_ON, OUTGROWN);
        });
        Check.edge(YEARS, words, () -> {
            NameBenches x = of("Rp4000p3900s01g0100A.c0A.");
            Check.same("both in two years of one call", x.years(2), 2);
            states(x, "two years", HANDED_ON, OUTGROWN);
        });
        Check.edge(YEARS, words, () -> {
            NameBenches x = of("Rp4000p3900p3800s01g0100A.c0A.g0001B.c0B.");
            Check.same("two of two people", x.years(1), 2);
            states(x, "each by one step", HANDED_ON, HANDED_ON, NEW, NEW);
            Check.same("A", x.nameOf(2, 3), 1);
            Check.same("B", x.nameOf(3, 3), 2);
        });
    }

    private static void byNumbers() {
        String words = "Then, name by name, by numbers, if it is alive";
        Check.edge(YEARS, words, () -> states(of("Rp1000p0500s01g0001BB.y1g0001CC.g0001DD.g0100A.c0A.y2"),
            "one that ended before it in this year made room", FORGOTTEN, NEW, NEW, HANDED_ON, NEW));
        Check.edge(YEARS, words, () -> states(of("Rp1000p0500s01g0100A.g0001BB.y1g0001CC.g0001DD.c0A.y2"),
            "one that ends behind it in this year makes no room yet", OUTGROWN, FORGOTTEN, NEW, NEW));
        Check.edge(YEARS, words, () -> states(of("Rp1100p0900s01g0100A.g0100B.g0100C.c0A.c0B.c0C.g0001DD.y2"),
            "the first two leave no room for the third", HANDED_ON, HANDED_ON, OUTGROWN, NEW, NEW, NEW));
        Check.edge(YEARS, words, () -> {
            NameBenches x = of("Rp1200p0500g0100A.y1");
            Check.same("one that is not alive ends no more", x.years(9), 0);
            states(x, "nor changes its state", OUTGROWN);
        });
        Check.edge(YEARS, words, () -> {
            NameBenches x = of("Rp0500p1200s01g0001A.c0A.g0100BB.y1");
            Check.same("the numbers go on behind the last", x.nameOf(2, 1), A);
        });
    }
}
