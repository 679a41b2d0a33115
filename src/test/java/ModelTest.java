import java.util.Random;
import java.util.TreeMap;
import java.util.function.IntSupplier;

/** Long runs of calls on the program and on the model, in which every answer and every exception must be the same. */
public final class ModelTest {
    private static final int RUNS = 400;
    private static final int CALLS = 512;
    private static final int THREW = Integer.MIN_VALUE;
    private static final String SPOILT = "0123456789ABZpgcybs.R @[\0\u00ff";
    private static final int[] FAR = {-1, Integer.MIN_VALUE, Integer.MAX_VALUE, 12, 40, 456976, 1000};

    /** How often what happened, so that the runs can be seen to reach the rules. */
    private static final TreeMap<String, Integer> SEEN = new TreeMap<>();
    private static final String[] MUST_BE_SEEN = {
        "give 0", "give 1", "give 2", "give 3", "give 4", "give 5", "give IndexOutOfBoundsException",
        "give IllegalArgumentException", "sit IllegalStateException", "sit IndexOutOfBoundsException",
        "person IllegalStateException", "person IllegalArgumentException", "person IndexOutOfBoundsException",
        "years IllegalStateException", "years IllegalArgumentException", "set IllegalArgumentException",
        "undo IllegalStateException", "undo 13", "undo 0", "load IllegalStateException", "load 0", "load 3",
        "restore IllegalStateException", "restore 40", "append IllegalStateException", "bestName -1",
        "runScript -1", "runScript 0", "runScript 1", "runScript 2", "handed on", "outgrown for want of a number",
        "mix", "errorPosition -1",
    };

    private final NameBenches real = new NameBenches();
    private final Model model = new Model();
    private final Random random;
    private final int run;
    private final int families;
    private final int benches;
    private final int codes;
    private final boolean isLongLived;
    private final boolean isCrowded;
    private int step = 0;

    private ModelTest(int run) {
        this.run = run;
        random = new Random(run);
        families = 1 + random.nextInt(6);
        benches = 1 + random.nextInt(4);
        codes = 1 + random.nextInt(26);
        isLongLived = run % 20 == 1;
        isCrowded = run % 5 == 2;
    }

    public static void main(String[] args) {
        for (int run = 0; run < RUNS; run++) {
            new ModelTest(run).go();
        }
        for (String each : MUST_BE_SEEN) {
            Check.that("seen: " + each, SEEN.containsKey(each));
        }
        Check.end();
    }

    private void go() {
        for (step = 0; step < CALLS; step++) {
            oneCall();
            if (step % 16 == 15) {
                compareAll();
            }
        }
    }

    private static int answer(IntSupplier call, String[] thrown) {
        try {
            return call.getAsInt();
        } catch (RuntimeException e) {
            thrown[0] = e.getClass().getSimpleName();
            return THREW;
        }
    }

    private int same(String call, IntSupplier got, IntSupplier due) {
        String[] gotThrown = {"nothing"};
        String[] dueThrown = {"nothing"};
        int gotAnswer = answer(got, gotThrown);
        int dueAnswer = answer(due, dueThrown);
        String where = "run " + run + " step " + step + " " + call;
        Check.same(where, gotAnswer, dueAnswer);
        Check.that(where + " threw " + gotThrown[0] + " for " + dueThrown[0], gotThrown[0].equals(dueThrown[0]));
        String name = call.substring(0, call.indexOf(' '));
        SEEN.merge(name + " " + (dueAnswer == THREW ? dueThrown[0] : "" + dueAnswer), 1, Integer::sum);
        return dueAnswer;
    }

    private void compareAll() {
        for (int i = 0; i <= 14; i++) {
            int what = i;
            same("about " + what, () -> real.about(what), () -> model.about(what));
        }
        for (int i = 0; i < 12 * 9; i++) {
            int p = i / 9;
            int what = i % 9;
            same("personOf " + p + " " + what, () -> real.personOf(p, what), () -> model.personOf(p, what));
        }
        for (int i = 0; i < 40 * 8; i++) {
            int n = i / 8;
            int what = i % 8;
            same("nameOf " + n + " " + what, () -> real.nameOf(n, what), () -> model.nameOf(n, what));
        }
        for (int i = 0; i < 40; i++) {
            int n = i;
            same("endsIn " + n, () -> real.endsIn(n), () -> model.endsIn(n));
            same("roll " + n, () -> real.roll(n), () -> model.roll(n));
        }
        same("bestGiver ", real::bestGiver, model::bestGiver);
        same("mixed ", real::mixed, model::mixed);
    }

    // ---- arguments: mostly those with which something happens

    private int some(int bound) {
        return random.nextInt(60) == 0 ? FAR[random.nextInt(FAR.length)] : random.nextInt(bound);
    }

    private int somePerson() {
        return some(random.nextInt(10) == 0 ? 12 : Math.max(1, model.s.people.size()));
    }

    private int someMany() {
        return random.nextInt(80) == 0 ? random.nextInt(8) - 1 : random.nextInt(3) != 0 ? 1 : 1 + random.nextInt(4);
    }

    private int someCode(int many) {
        int bound = many == 1 ? codes : many == 2 && random.nextInt(3) == 0 ? 680 : 4;
        return some(bound);
    }

    private void oneCall() {
        int kind = random.nextInt(100);
        if (isLongLived && random.nextInt(3) == 0) {
            callYears();
        } else if (isCrowded && random.nextInt(3) == 0) {
            callGive();
        } else if (kind < 8) {
            callPerson();
        } else if (kind < 12) {
            callSit();
        } else if (kind < 32) {
            callGive();
        } else if (kind < 60) {
            callCall();
        } else if (kind < 67) {
            callYears();
        } else if (kind < 70) {
            callSet();
        } else if (kind < 74) {
            callUndo();
        } else if (kind < 93) {
            callQuestion(kind);
        } else if (kind < 97) {
            callSlots();
        } else {
            callText();
        }
    }

    private void callPerson() {
        int age = random.nextInt(30) == 0 ? random.nextInt(120) - 10 : random.nextInt(40);
        int family = random.nextInt(30) == 0 ? random.nextInt(9) - 1 : random.nextInt(families);
        int bench = random.nextInt(30) == 0 ? random.nextInt(6) - 1 : random.nextInt(benches);
        same("person " + age + " " + family + " " + bench,
            () -> real.person(age, family, bench), () -> model.person(age, family, bench));
    }

    private void callSit() {
        int p = somePerson();
        int bench = some(benches);
        same("sit " + p + " " + bench, () -> real.sit(p, bench), () -> model.sit(p, bench));
    }

    private void callGive() {
        int giver = somePerson();
        int p = somePerson();
        int many = someMany();
        int code = someCode(many);
        String told = giver + " " + p + " " + many + " " + code;
        same("why " + told, () -> real.why(giver, p, many, code), () -> model.why(giver, p, many, code));
        same("give " + told, () -> real.give(giver, p, many, code), () -> model.give(giver, p, many, code));
    }

    private void callCall() {
        int b = some(benches);
        int many = someMany();
        int code = someCode(many);
        int way = random.nextInt(30) == 0 ? random.nextInt(5) - 1 : random.nextInt(2);
        String told = b + " " + many + " " + code;
        same("meant " + told + " " + way, () -> real.meant(b, many, code, way), () -> model.meant(b, many, code, way));
        int mixes = model.about(9);
        same("call " + told, () -> real.call(b, many, code), () -> model.call(b, many, code));
        if (model.about(9) > mixes) {
            SEEN.merge("mix", 1, Integer::sum);
        }
    }

    private void callYears() {
        int n = random.nextInt(8) == 0 ? random.nextInt(13) - 1 : isLongLived ? 9 : 1 + random.nextInt(2);
        int handedOn = model.about(6);
        int outgrown = model.about(5);
        boolean isFull = model.about(1) == 40;
        boolean hasSticking = model.about(3) > 0;
        same("years " + n, () -> real.years(n), () -> model.years(n));
        if (model.about(6) > handedOn) {
            SEEN.merge("handed on", 1, Integer::sum);
        }
        if (isFull && hasSticking && model.about(5) > outgrown) {
            SEEN.merge("outgrown for want of a number", 1, Integer::sum);
        }
    }

    private void callSet() {
        int what = some(3);
        int v = random.nextInt(12) - 1;
        same("set " + what + " " + v, () -> real.set(what, v), () -> model.set(what, v));
    }

    private void callUndo() {
        for (int times = random.nextInt(8) == 0 ? 16 : 1; times > 0; times--) {
            same("undo ", real::undo, model::undo);
        }
    }

    private void callSlots() {
        int slot = random.nextInt(20) == 0 ? random.nextInt(5) - 2 : random.nextInt(2);
        if (random.nextInt(3) != 0) {
            same("save " + slot, () -> real.save(slot), () -> model.save(slot));
        } else {
            same("restore " + slot, () -> real.restore(slot), () -> model.restore(slot));
        }
    }

    private void callQuestion(int kind) {
        int n = some(41);
        int what = some(16);
        if (kind < 77) {
            int many = random.nextInt(20) == 0 ? random.nextInt(5) - 1 : 1 + random.nextInt(8) / 7;
            int giver = somePerson();
            int p = somePerson();
            same("bestName " + giver + " " + p + " " + many,
                () -> real.bestName(giver, p, many), () -> model.bestName(giver, p, many));
        } else if (kind < 80) {
            long seed = random.nextLong();
            int m = random.nextInt(10) == 0 ? random.nextInt(70) - 4 : 60;
            same("simulate " + seed + " " + m, () -> real.simulate(seed, m), () -> model.simulate(seed, m));
        } else if (kind < 89) {
            int many = random.nextInt(20) == 0 ? random.nextInt(6) - 1 : 1 + random.nextInt(3);
            long script = someScript(many);
            same("runScript " + many + " " + script, () -> real.runScript(many, script), () -> model.runScript(many, script));
        } else if (kind < 91) {
            same("letter " + n + " " + what, () -> real.letter(n, what), () -> model.letter(n, what));
        } else {
            same("roll " + n, () -> real.roll(n), () -> model.roll(n));
            same("about " + what, () -> real.about(what), () -> model.about(what));
            same("personOf " + n + " " + what, () -> real.personOf(n, what), () -> model.personOf(n, what));
            same("nameOf " + n + " " + what, () -> real.nameOf(n, what), () -> model.nameOf(n, what));
        }
    }

    private long someScript(int many) {
        if (random.nextInt(15) == 0) {
            return random.nextLong();
        }
        long script = 0;
        for (int i = 0; i < many; i++) {
            script = script * 1000000 + someGroup();
        }
        return script;
    }

    private int someGroup() {
        int people = Math.max(1, Math.min(10, model.s.people.size()));
        int p = random.nextInt(people);
        int q = random.nextInt(people);
        int b = random.nextInt(benches);
        int xx = random.nextInt(12) == 0 ? random.nextInt(30) : random.nextInt(codes);
        int spoil = random.nextInt(15) == 0 ? random.nextInt(999999) : 0;
        int[] groups = {
            100000 + 10000 * p + 1000 * q + 10 * xx,
            200000 + 10000 * b + 100 * xx,
            300000 + random.nextInt(4),
            400000 + 10000 * p + random.nextInt(5),
            500000 + 10000 * random.nextInt(4) + random.nextInt(10),
            600000 + 10000 * p + random.nextInt(4),
            700000 + 10000 * b + 100 * xx + 10 * q,
            800000 + random.nextInt(3),
            900000 + 1000 * random.nextInt(Math.max(1, model.s.nicks.size())) + random.nextInt(5),
        };
        return (groups[random.nextInt(groups.length)] + spoil) % 1000000;
    }

    // ---- texts

    private void callText() {
        if (random.nextInt(4) != 0) {
            same("clearText ", real::clearText, model::clearText);
            append(random.nextInt(20) == 0 ? "r" : "R");
        }
        for (int commands = random.nextInt(24); commands > 0; commands--) {
            append(someCommand());
        }
        same("errorPosition ", real::errorPosition, model::errorPosition);
        if (random.nextInt(3) == 0) {
            same("load ", real::load, model::load);
        }
    }

    private void append(String signs) {
        for (char sign : signs.toCharArray()) {
            same("append " + (int) sign, () -> real.append(sign), () -> model.append(sign));
        }
    }

    private String someCommand() {
        String name = "";
        for (int many = 1 + random.nextInt(random.nextInt(5) == 0 ? 4 : 1); many > 0; many--) {
            name += (char) ('A' + random.nextInt(random.nextInt(10) == 0 ? 26 : 3));
        }
        int p = random.nextInt(random.nextInt(9) == 0 ? 12 : 4);
        int q = random.nextInt(4);
        String person = (p < 10 ? "0" : "") + p;
        int b = random.nextInt(benches);
        String[] all = {
            "p" + (10 + random.nextInt(20)) + random.nextInt(families) + b,
            "p0" + random.nextInt(10) + random.nextInt(families) + b,
            "g0" + q + person + name + ".", "g" + person + "0" + q + name + ".",
            "c" + b + name + ".", "c" + b + name + ".", "y" + (1 + random.nextInt(3)), "b" + person + b,
            "s" + random.nextInt(3) + random.nextInt(10),
        };
        String made = all[random.nextInt(all.length)];
        if (random.nextInt(100) == 0) {
            int at = random.nextInt(made.length());
            char spoilt = SPOILT.charAt(random.nextInt(SPOILT.length()));
            made = made.substring(0, at) + spoilt + made.substring(at + 1);
        }
        return made;
    }
}
