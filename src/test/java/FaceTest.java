import java.lang.reflect.Constructor;
import java.lang.reflect.Field;
import java.lang.reflect.Member;
import java.lang.reflect.Method;
import java.lang.reflect.Modifier;
import java.nio.file.Files;
import java.nio.file.Path;
import java.util.ArrayList;
import java.util.List;
import java.util.Set;
import java.util.TreeSet;
import java.util.regex.Matcher;
import java.util.regex.Pattern;

/** The class shows the document's face, and nothing besides. */
public final class FaceTest {
    private static final Pattern METHOD =
        Pattern.compile("public (int|long|boolean|String) (\\w+)\\(([^)]*)\\)(?: throws ([^;]*))?;");

    private static int wrong;

    public static void main(String[] args) throws Exception {
        Set<String> wanted = facesOf(Files.readString(Path.of("../shared/DOC.md")));
        Set<String> found = facesOf(Tokenwalk.class);
        check(wanted.size() == 46, "the document's face has 46 methods, read were " + wanted.size());
        for (String face : wanted) {
            check(found.contains(face), "missing: " + face);
        }
        for (String face : found) {
            check(wanted.contains(face), "not in the document: " + face);
        }
        checkClass();
        checkMembers();
        System.out.println(wrong == 0 ? "FaceTest: the face is the document's" : "FaceTest: " + wrong + " faults");
        if (wrong != 0) {
            System.exit(1);
        }
    }

    private static void check(boolean holds, String fault) {
        if (!holds) {
            wrong++;
            System.out.println(fault);
        }
    }

    private static Set<String> facesOf(String document) {
        String face = document.substring(document.indexOf("```java"), document.indexOf("## Description"));
        Set<String> all = new TreeSet<>();
        Matcher m = METHOD.matcher(face);
        while (m.find()) {
            String parameters = m.group(3).replaceAll(" \\w+(?=,|$)", "").replace(", ", ",");
            String thrown = m.group(4) == null ? "" : m.group(4).replace(", ", ",");
            all.add(m.group(1) + " " + m.group(2) + "(" + parameters + ")" + thrown);
        }
        return all;
    }

    private static Set<String> facesOf(Class<?> type) {
        Set<String> all = new TreeSet<>();
        for (Method m : type.getDeclaredMethods()) {
            if (Modifier.isPublic(m.getModifiers())) {
                all.add(m.getReturnType().getSimpleName() + " " + m.getName()
                    + "(" + names(m.getParameterTypes()) + ")" + names(m.getExceptionTypes()));
            }
        }
        return all;
    }

    private static String names(Class<?>[] types) {
        List<String> names = new ArrayList<>();
        for (Class<?> type : types) {
            names.add(type.getSimpleName());
        }
        return String.join(",", names);
    }

    private static void checkClass() {
        int modifiers = Tokenwalk.class.getModifiers();
        check(Modifier.isPublic(modifiers) && Modifier.isFinal(modifiers), "the class is not public and final");
        Constructor<?>[] made = Tokenwalk.class.getDeclaredConstructors();
        check(made.length == 1 && Modifier.isPublic(made[0].getModifiers())
            && made[0].getParameterCount() == 0, "there is not just the public constructor without parameters");
    }

    private static void checkMembers() {
        Set<String> publicNames = new TreeSet<>();
        for (Method m : Tokenwalk.class.getDeclaredMethods()) {
            if (Modifier.isPublic(m.getModifiers())) {
                publicNames.add(m.getName());
            }
        }
        for (Method m : Tokenwalk.class.getDeclaredMethods()) {
            if (!Modifier.isPublic(m.getModifiers())) {
                checkPrivate(m);
                check(!publicNames.contains(m.getName()), "a private method bears a public name: " + m);
            }
        }
        for (Field f : Tokenwalk.class.getDeclaredFields()) {
            checkPrivate(f);
            check(!Modifier.isStatic(f.getModifiers()) || Modifier.isFinal(f.getModifiers()), "static, not final: " + f);
        }
    }

    private static void checkPrivate(Member m) {
        check(m.isSynthetic() || Modifier.isPrivate(m.getModifiers()), "not private: " + m);
    }
}
