import java.lang.reflect.Constructor;
import java.lang.reflect.Field;
import java.lang.reflect.Method;
import java.lang.reflect.Modifier;
import java.util.ArrayList;
import java.util.Collections;
import java.util.List;
import java.util.TreeSet;

/** The public face has what the document lists, and nothing else (LANGUAGE.md, rule 1). */
final class PublicFaceTest {
    private static final String[] DUE = {
        "int nails(int) IllegalArgumentException",
        "int spool(int,int,int) IndexOutOfBoundsException,IllegalArgumentException,IllegalStateException",
        "int knot(int) IndexOutOfBoundsException,IllegalStateException",
        "int set(int,int) IndexOutOfBoundsException,IllegalArgumentException",
        "int wind(int) IndexOutOfBoundsException,IllegalStateException",
        "int unwind() IllegalStateException",
        "int windBest(int) IllegalArgumentException",
        "int want(int,int,int) IndexOutOfBoundsException,IllegalArgumentException",
        "int turnFace(int) IllegalArgumentException",
        "int append(int) IllegalArgumentException,IllegalStateException",
        "int clearBuffer() ",
        "int firstError() ",
        "int load() IllegalArgumentException",
        "int keep(int) IllegalArgumentException",
        "int goBack(int) IllegalArgumentException,IllegalStateException",
        "int undo() IllegalStateException",
        "int nailOf(int,int) IndexOutOfBoundsException,IllegalArgumentException",
        "int spoolOf(int,int) IndexOutOfBoundsException,IllegalArgumentException",
        "int chord(int,int,int) IndexOutOfBoundsException,IllegalArgumentException",
        "int wound(int,int) IllegalArgumentException",
        "int square(int,int,int) IndexOutOfBoundsException,IllegalArgumentException",
        "int count(int) IllegalArgumentException",
        "int setting(int) IndexOutOfBoundsException",
        "int whyNot(int) IndexOutOfBoundsException",
        "int gain(int) IndexOutOfBoundsException",
        "int best() ",
        "int bestTwo() ",
        "int palest() ",
        "int bestSpool() ",
        "double shownShare() ",
        "long digest() ",
    };

    private PublicFaceTest() {
    }

    public static void main(String[] args) {
        Class<?> face = RingThreads.class;
        Check.equal("modifiers", Modifier.PUBLIC | Modifier.FINAL, face.getModifiers());
        methods(face);
        fields(face);
        Check.equal("constructors", 1, face.getDeclaredConstructors().length);
        for (Constructor<?> one : face.getDeclaredConstructors()) {
            Check.isTrue("the constructor is public", Modifier.isPublic(one.getModifiers()));
            Check.equal("its parameters", 0, one.getParameterCount());
        }
        for (Class<?> inside : face.getDeclaredClasses()) {
            int modifiers = inside.getModifiers();
            Check.isTrue(inside + " is static", Modifier.isStatic(modifiers));
            Check.isTrue(inside + " is hidden", !Modifier.isPublic(modifiers) && !Modifier.isProtected(modifiers));
            Check.isTrue(inside + " has 20 fields at most", instanceFields(inside) <= 20);
        }
        Check.end();
    }

    private static void methods(Class<?> face) {
        List<String> got = new ArrayList<>();
        TreeSet<String> names = new TreeSet<>();
        List<String> hidden = new ArrayList<>();
        for (Method method : face.getDeclaredMethods()) {
            if (Modifier.isPublic(method.getModifiers())) {
                got.add(told(method));
                names.add(method.getName());
            } else {
                Check.isTrue(method + " is private", Modifier.isPrivate(method.getModifiers()));
                hidden.add(method.getName());
            }
        }
        List<String> due = new ArrayList<>(List.of(DUE));
        Collections.sort(due);
        Collections.sort(got);
        Check.equal("the public methods", due, got);
        for (String name : hidden) {
            Check.isTrue(name + " is no public name", !names.contains(name));
        }
    }

    private static String told(Method method) {
        StringBuilder text = new StringBuilder();
        text.append(method.getReturnType()).append(' ').append(method.getName()).append('(');
        text.append(listed(method.getParameterTypes())).append(") ").append(listed(method.getExceptionTypes()));
        return text.toString();
    }

    private static String listed(Class<?>[] types) {
        List<String> names = new ArrayList<>();
        for (Class<?> type : types) {
            names.add(type.getSimpleName());
        }
        return String.join(",", names);
    }

    private static void fields(Class<?> face) {
        for (Field field : face.getDeclaredFields()) {
            boolean isNone = field.getName().equals("NONE");
            int modifiers = field.getModifiers();
            Check.equal(field + " is public", isNone, Modifier.isPublic(modifiers));
            Check.equal(field + " is private", !isNone, Modifier.isPrivate(modifiers));
            Check.isTrue(field + " is final if it is static", !Modifier.isStatic(modifiers) || Modifier.isFinal(modifiers));
        }
        Check.isTrue("the class has 20 fields at most", instanceFields(face) <= 20);
    }

    private static int instanceFields(Class<?> one) {
        int many = 0;
        for (Field field : one.getDeclaredFields()) {
            if (!Modifier.isStatic(field.getModifiers())) {
                many++;
            }
        }
        return many;
    }
}
