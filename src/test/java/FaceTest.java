import java.lang.reflect.Constructor;
import java.lang.reflect.Field;
import java.lang.reflect.Method;
import java.lang.reflect.Modifier;
import java.util.Arrays;
import java.util.TreeSet;

/** The public face is the document's, with its exceptions and nothing else, as LANGUAGE.md's rules 1 and 5 ask. */
public final class FaceTest {
    private static final String B = "IndexOutOfBoundsException";
    private static final String A = "IllegalArgumentException";
    private static final String S = "IllegalStateException";

    private static final String[] FACE = {
        "append(int)" + A + S, "clearText()", "errorPosition()", "load()" + S, "about(int)" + A,
        "personOf(int,int)" + B + A, "nameOf(int,int)" + B + A, "letter(int,int)" + B, "roll(int)" + A,
        "meant(int,int,int,int)" + B + A, "person(int,int,int)" + B + A + S, "sit(int,int)" + B + S,
        "give(int,int,int,int)" + B + A, "call(int,int,int)" + B + A, "years(int)" + A + S, "set(int,int)" + A,
        "undo()" + S, "why(int,int,int,int)" + B + A, "endsIn(int)" + B, "bestName(int,int,int)" + B + A,
        "bestGiver()", "mixed()", "runScript(int,long)" + A, "simulate(long,int)" + A, "save(int)" + B,
        "restore(int)" + B + S,
    };

    public static void main(String[] args) {
        Class<?> face = NameBenches.class;
        Check.that("public and final", Modifier.isPublic(face.getModifiers()) && Modifier.isFinal(face.getModifiers()));
        Check.same("NONE", NameBenches.NONE, -1);
        TreeSet<String> due = new TreeSet<>(Arrays.asList(FACE));
        TreeSet<String> names = new TreeSet<>();
        for (String each : FACE) {
            names.add(each.substring(0, each.indexOf('(')));
        }
        checkMethods(face, due, names);
        for (Field field : face.getDeclaredFields()) {
            checkField(field, field.getName().equals("NONE"));
        }
        for (Constructor<?> made : face.getDeclaredConstructors()) {
            Check.that("one constructor, public", Modifier.isPublic(made.getModifiers()) && made.getParameterCount() == 0);
        }
        for (Class<?> inside : face.getDeclaredClasses()) {
            Check.that(inside + " is static", Modifier.isStatic(inside.getModifiers()));
            for (Field field : inside.getDeclaredFields()) {
                Check.that(field + " is no other static state",
                    !Modifier.isStatic(field.getModifiers()) || Modifier.isFinal(field.getModifiers()));
            }
        }
        Check.end();
    }

    private static void checkMethods(Class<?> face, TreeSet<String> due, TreeSet<String> names) {
        TreeSet<String> found = new TreeSet<>();
        for (Method method : face.getDeclaredMethods()) {
            if (Modifier.isPublic(method.getModifiers())) {
                Check.that(method + " answers an int", method.getReturnType() == int.class);
                found.add(told(method));
            } else {
                Check.that(method + " is private", Modifier.isPrivate(method.getModifiers()));
                Check.that(method + " has a name of its own", !names.contains(method.getName()));
            }
        }
        for (String each : due) {
            Check.that(each + " is there", found.contains(each));
        }
        Check.same("public methods", found.size(), due.size());
    }

    private static String told(Method method) {
        StringBuilder told = new StringBuilder(method.getName()).append('(');
        for (Class<?> kind : method.getParameterTypes()) {
            told.append(told.charAt(told.length() - 1) == '(' ? "" : ",").append(kind.getName());
        }
        told.append(')');
        for (Class<?> kind : method.getExceptionTypes()) {
            told.append(kind.getSimpleName());
        }
        return told.toString();
    }

    private static void checkField(Field field, boolean isPublic) {
        int how = field.getModifiers();
        Check.that(field + " is public or private", isPublic ? Modifier.isPublic(how) : Modifier.isPrivate(how));
        Check.that(field + " is no static state", !Modifier.isStatic(how) || Modifier.isFinal(how));
    }
}
