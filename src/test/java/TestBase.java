import java.util.function.Consumer;
import java.util.function.IntSupplier;

/** What the tests have in common: short names, objects made by a text, and all that can be asked of one. */
abstract class TestBase {
    static final Class<IndexOutOfBoundsException> BOUNDS = IndexOutOfBoundsException.class;
    static final Class<IllegalArgumentException> ARGUMENT = IllegalArgumentException.class;
    static final Class<IllegalStateException> STATE = IllegalStateException.class;
    static final int NONE = NameBenches.NONE;
    static final int LEAST = Integer.MIN_VALUE;
    static final int MOST = Integer.MAX_VALUE;

    static final int A = 0;
    static final int B = 1;
    static final int C = 2;
    static final int D = 3;
    static final int Z = 25;
    static final int AA = 0;
    static final int AB = 1;
    static final int ZZ = 675;
    static final int ZZZ = 17575;
    static final int ZZZZ = 456975;

    static final int NEW = 0;
    static final int STICKING = 1;
    static final int FORGOTTEN = 2;
    static final int OUTGROWN = 3;
    static final int HANDED_ON = 4;

    /** An object made by a text of which no command is left out. */
    static NameBenches of(String text) {
        NameBenches x = new NameBenches();
        put(x, text);
        Check.same("load of " + text, x.load(), 0);
        return x;
    }

    static void put(NameBenches x, String text) {
        x.clearText();
        add(x, text);
    }

    static void add(NameBenches x, String signs) {
        for (char sign : signs.toCharArray()) {
            x.append(sign);
        }
    }

    static void isError(String text, int due) {
        NameBenches x = new NameBenches();
        put(x, text);
        Check.same("errorPosition of " + text, x.errorPosition(), due);
    }

    /** A text that load takes, and how many of its commands are left out. */
    static NameBenches leavesOut(int due, String text) {
        NameBenches x = new NameBenches();
        put(x, text);
        Check.same("left out of " + text, x.load(), due);
        return x;
    }

    static void abouts(NameBenches x, String what, int... due) {
        for (int i = 0; i < due.length; i++) {
            Check.same(what + ": about(" + i + ")", x.about(i), due[i]);
        }
    }

    static void states(NameBenches x, String what, int... due) {
        Check.same(what + ": names", x.about(1), due.length);
        for (int n = 0; n < due.length && n < x.about(1); n++) {
            Check.same(what + ": state of name " + n, x.nameOf(n, 6), due[n]);
        }
    }

    /** Everything of the state that can be asked for. */
    static String all(NameBenches x) {
        StringBuilder told = new StringBuilder();
        for (int what = 0; what <= 14; what++) {
            told.append(x.about(what)).append(' ');
        }
        int people = x.about(0);
        for (int i = 0; i < 9 * people; i++) {
            told.append(x.personOf(i / 9, i % 9)).append(' ');
        }
        int names = x.about(1);
        for (int i = 0; i < 8 * names; i++) {
            told.append(x.nameOf(i / 8, i % 8)).append(' ');
        }
        return told.toString();
    }

    /** The call throws and changes nothing of the state. */
    static void refuses(NameBenches x, String what, Class<? extends RuntimeException> due, Runnable call) {
        String before = all(x);
        Check.fails(what, due, call);
        Check.that(what + " changes nothing", before.equals(all(x)));
    }

    static void calls(NameBenches x, int times, int b, int many, int code) {
        for (int i = 0; i < times; i++) {
            x.call(b, many, code);
        }
    }

    static void years(NameBenches x, int n) {
        for (int left = n; left > 0; left -= 9) {
            x.years(Math.min(left, 9));
        }
    }

    // ---- an object to its ground: the state, the text, the remembered states, the slots

    /** Three people, three names, three remembered actions, slot 0 alone saved, and half a command as the text. */
    static NameBenches busy() {
        NameBenches x = of("Rp1000p0901p2011g0001A.g0100B.c1A.");
        x.save(0);
        x.set(0, 2);
        x.call(1, 1, A);
        x.give(2, 1, 2, AB);
        put(x, "Rp12");
        return x;
    }

    /** All that can be learned of a busy object, in fewer than 512 calls; it is used up by this. */
    static String ground(NameBenches x) {
        StringBuilder told = new StringBuilder(all(x)).append(" error ").append(x.errorPosition());
        for (int i = 0; i < 15 && tells(x, told, " undo ", x::undo); i++) {
            told.append(i);
        }
        tells(x, told, " slot 0 ", () -> x.restore(0));
        tells(x, told, " slot 1 ", () -> x.restore(1));
        // the text was half a command: with its other half its characters are seen
        add(x, "03");
        tells(x, told, " load ", x::load);
        return told.append(" text ").append(x.clearText()).toString();
    }

    /** Tells what the call answers and how all is then, or what it throws. */
    private static boolean tells(NameBenches x, StringBuilder told, String what, IntSupplier call) {
        try {
            told.append(what).append(call.getAsInt()).append(": ").append(all(x));
            return true;
        } catch (RuntimeException e) {
            told.append(what).append(e.getClass());
            return false;
        }
    }

    static void changesNothing(String what, Consumer<NameBenches> call) {
        NameBenches x = busy();
        call.accept(x);
        Check.that(what + " changes nothing", ground(x).equals(ground(busy())));
    }

    static void refusesWholly(String what, Class<? extends RuntimeException> due, Consumer<NameBenches> call) {
        NameBenches x = busy();
        Check.fails(what, due, () -> call.accept(x));
        Check.that(what + " changes nothing", ground(x).equals(ground(busy())));
    }

    // ---- letters that do not exist

    interface WithCode {
        Runnable call(int many, int code);
    }

    static void wrongCodes(String what, WithCode with) {
        int[][] wrong = {{0, 0}, {5, 0}, {LEAST, 0}, {MOST, 0}, {-1, 0}, {1, -1}, {1, 26}, {2, 676}, {3, 17576},
            {4, 456976}, {4, LEAST}, {4, MOST}};
        for (int[] pair : wrong) {
            Check.fails(what + " with " + pair[0] + " " + pair[1], ARGUMENT, with.call(pair[0], pair[1]));
        }
    }
}
