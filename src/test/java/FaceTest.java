import java.lang.reflect.Constructor;
import java.lang.reflect.Field;
import java.lang.reflect.Method;
import java.lang.reflect.Modifier;
import java.util.Arrays;
import java.util.HashSet;
import java.util.Set;
import java.util.TreeSet;

/** The public face: its members and their throws clauses, and no other member that is not private. */
public final class FaceTest {
    private static final String[] METHODS = {
        "boolean signal(int, boolean) IndexOutOfBoundsException",
        "int setRate(int) IllegalArgumentException",
        "void setTimes(int, int, int, int) IllegalArgumentException, IllegalStateException",
        "void setEyes(int, int, int) IllegalArgumentException, IllegalStateException",
        "void setFurnace(int, int, int) IllegalArgumentException, IllegalStateException",
        "int poll(int) IllegalArgumentException",
        "int reset() IllegalStateException",
        "int ticks()",
        "int state()",
        "int reason()",
        "int time()",
        "boolean isOpen(boolean)",
        "boolean sees(boolean)",
        "int air()",
        "int fuel()",
        "int purged()",
        "int unlit()",
        "int longestUnlit()",
        "int changes()",
        "int records()",
        "int tickOf(int) IndexOutOfBoundsException",
        "int stateOf(int) IndexOutOfBoundsException",
        "int reasonOf(int) IndexOutOfBoundsException",
        "boolean couldBe(int, int) IllegalArgumentException",
        "int reasonsAhead(int) IllegalArgumentException",
        "int toPilot()",
    };

    private static final Due due = new Due();

    public static void main(String[] args) {
        due.is("the class is public and final", Burnerline.class.getModifiers(), Modifier.PUBLIC | Modifier.FINAL);
        due.is("NONE", Burnerline.NONE, -1);
        methods();
        fieldsAndConstructors();
        inside();
        due.end();
    }

    private static void methods() {
        Set<String> found = new TreeSet<>();
        for (Method m : Burnerline.class.getDeclaredMethods()) {
            if (Modifier.isPrivate(m.getModifiers())) {
                continue;
            }
            due.is(m + " is public and no more", m.getModifiers(), Modifier.PUBLIC);
            found.add(written(m));
        }
        due.same("the methods", found, new TreeSet<>(Arrays.asList(METHODS)));
    }

    private static String written(Method m) {
        String text = m.getReturnType().getSimpleName() + " " + m.getName() + "(" + names(m.getParameterTypes()) + ")";
        String thrown = names(m.getExceptionTypes());
        return thrown.isEmpty() ? text : text + " " + thrown;
    }

    private static String names(Class<?>[] types) {
        StringBuilder text = new StringBuilder();
        for (Class<?> type : types) {
            text.append(text.length() == 0 ? "" : ", ").append(type.getSimpleName());
        }
        return text.toString();
    }

    private static void fieldsAndConstructors() {
        for (Field f : Burnerline.class.getDeclaredFields()) {
            boolean isNone = f.getName().equals("NONE");
            due.is(f + " is public", Modifier.isPublic(f.getModifiers()), isNone);
            due.is(f + " is private", Modifier.isPrivate(f.getModifiers()), !isNone);
        }
        Constructor<?>[] all = Burnerline.class.getDeclaredConstructors();
        due.is("constructors", all.length, 1);
        due.is("the constructor is public", all[0].getModifiers(), Modifier.PUBLIC);
        due.is("the constructor's parameters", all[0].getParameterCount(), 0);
    }

    private static void inside() {
        Set<String> face = new HashSet<>();
        for (String method : METHODS) {
            face.add(method.substring(method.indexOf(' ') + 1, method.indexOf('(')));
        }
        privateNames(Burnerline.class, face);
        staticsAreFinal(Burnerline.class);
        for (Class<?> c : Burnerline.class.getDeclaredClasses()) {
            int hidden = c.getModifiers() & (Modifier.PUBLIC | Modifier.PROTECTED);
            due.is(c + " is private or package-visible", hidden, 0);
            due.is(c + " is static", Modifier.isStatic(c.getModifiers()), true);
            privateNames(c, face);
            staticsAreFinal(c);
        }
    }

    private static void privateNames(Class<?> c, Set<String> face) {
        for (Method m : c.getDeclaredMethods()) {
            if (!Modifier.isPublic(m.getModifiers())) {
                due.is(m + " bears a name of the face", face.contains(m.getName()), false);
            }
        }
    }

    private static void staticsAreFinal(Class<?> c) {
        for (Field f : c.getDeclaredFields()) {
            if (Modifier.isStatic(f.getModifiers())) {
                due.is(f + " is final", Modifier.isFinal(f.getModifiers()), true);
            }
        }
    }
}
