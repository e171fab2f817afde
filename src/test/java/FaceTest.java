import java.lang.reflect.Constructor;
import java.lang.reflect.Field;
import java.lang.reflect.Method;
import java.lang.reflect.Modifier;
import java.util.ArrayList;
import java.util.Arrays;
import java.util.HashSet;
import java.util.List;
import java.util.Set;
import java.util.TreeSet;

/** The public face of the document, and nothing beside it. */
public final class FaceTest {
    private static final Due due = new Due();

    private static final String[] METHODS = {
        "bestPhrase(int)", "count(int)", "costOf()", "distance(int,int)", "drop(int)", "enter()", "entry(int,int)",
        "fault()", "garble(int,int,int)", "left()", "letter(int,int)", "phraseSign(int,int)", "put(long)",
        "received(int,int)", "receivedSo(int)", "recode(int,int)", "restore(int)", "save(int)", "saves(int)", "send()",
        "sendAgain()", "set(int,int)", "undo()", "wipe()"};

    public static void main(String[] args) throws Exception {
        constants();
        members();
        nestedClasses();
        due.end();
    }

    private static void yes(String what, boolean holds) {
        due.is(what, holds ? 1 : 0, 1);
    }

    private static void constants() throws Exception {
        String[] names = {
            "NO_SUCH", "BAD_VALUE", "BAD_TEXT", "TOO_MANY", "NOT_POSSIBLE", "NONE", "COST", "WIDE", "APART"};
        int[] values = {-1, -2, -3, -4, -5, -6, 0, 1, 2};
        Set<String> seen = new TreeSet<>();
        for (Field field : GarbleWords.class.getDeclaredFields()) {
            if (!Modifier.isPrivate(field.getModifiers())) {
                seen.add(field.getName());
                yes(field + " is a constant", field.toString().startsWith("public static final int "));
            }
            yes(field + " is final", Modifier.isFinal(field.getModifiers()));
        }
        yes("constants: " + seen, seen.equals(new TreeSet<>(Arrays.asList(names))));
        for (int i = 0; i < names.length; i++) {
            due.is(names[i], GarbleWords.class.getField(names[i]).getInt(null), values[i]);
        }
    }

    private static void members() {
        int modifiers = GarbleWords.class.getModifiers();
        yes("public and final", Modifier.isPublic(modifiers) && Modifier.isFinal(modifiers));
        Constructor<?>[] constructors = GarbleWords.class.getDeclaredConstructors();
        due.is("constructors", constructors.length, 1);
        yes("the constructor", constructors[0].toString().equals("public GarbleWords()"));
        Set<String> seen = new TreeSet<>();
        List<String> secret = new ArrayList<>();
        for (Method method : GarbleWords.class.getDeclaredMethods()) {
            if (Modifier.isPrivate(method.getModifiers())) {
                secret.add(method.getName());
                continue;
            }
            String parameters = Arrays.toString(method.getParameterTypes()).replaceAll("[\\[\\] ]", "");
            seen.add(method.getName() + "(" + parameters + ")");
            yes(method + " is public and answers an int", method.toString().startsWith("public int GarbleWords."));
        }
        yes("methods: " + seen, seen.equals(new TreeSet<>(Arrays.asList(METHODS))));
        noNameOfThePublic(secret);
    }

    private static void noNameOfThePublic(List<String> names) {
        Set<String> taken = new HashSet<>();
        for (String method : METHODS) {
            taken.add(method.substring(0, method.indexOf('(')));
        }
        for (String name : names) {
            yes(name + " is no name of a public method", !taken.contains(name));
        }
    }

    private static void nestedClasses() {
        Class<?>[] nested = GarbleWords.class.getDeclaredClasses();
        yes("some twelve classes at most", nested.length < 12);
        for (Class<?> inside : nested) {
            int modifiers = inside.getModifiers();
            yes(inside + " is static", Modifier.isStatic(modifiers));
            yes(inside + " is not public", !Modifier.isPublic(modifiers) && !Modifier.isProtected(modifiers));
            List<String> names = new ArrayList<>();
            for (Method method : inside.getDeclaredMethods()) {
                names.add(method.getName());
                yes(method + " has seven parameters at most", method.getParameterCount() <= 7);
            }
            noNameOfThePublic(names);
        }
    }
}
