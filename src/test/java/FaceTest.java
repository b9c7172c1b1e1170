import java.io.IOException;
import java.lang.reflect.Constructor;
import java.lang.reflect.Field;
import java.lang.reflect.Member;
import java.lang.reflect.Method;
import java.lang.reflect.Modifier;
import java.nio.file.Files;
import java.nio.file.Path;
import java.util.ArrayList;
import java.util.List;
import java.util.TreeSet;
import java.util.Set;

/** The public face, as the document prints it, and the first rule of the language. */
final class FaceTest {
    private FaceTest() {
    }

    static void all(Path document) {
        Check.test("the public face", () -> Check.same("face", face(), printedFace(document)));
        Check.test("nothing else can be seen", FaceTest::nothingElse);
    }

    private static String names(Class<?>[] types) {
        List<String> names = new ArrayList<>();
        for (Class<?> type : types) {
            names.add(type.getSimpleName());
        }
        return String.join(" ", names);
    }

    private static Set<String> face() {
        Set<String> face = new TreeSet<>();
        for (Method m : LetterRepository.class.getDeclaredMethods()) {
            if (Modifier.isPublic(m.getModifiers())) {
                face.add(m.getReturnType().getSimpleName() + " " + m.getName() + "(" + names(m.getParameterTypes())
                        + ") " + names(m.getExceptionTypes()));
            }
        }
        return face;
    }

    private static Set<String> printedFace(Path document) {
        Set<String> face = new TreeSet<>();
        for (String line : lines(document)) {
            if (line.matches("    public \\w+ \\w+\\(.*;")) {
                String text = line.substring(11, line.length() - 1);
                String head = text.substring(0, text.indexOf('('));
                String parameters = text.substring(text.indexOf('(') + 1, text.indexOf(')'));
                String thrown = text.contains(" throws ") ? text.substring(text.indexOf(" throws ") + 8) : "";
                face.add(head + "(" + parameters.replaceAll(" \\w+(,|$)", "") + ") " + thrown.replace(",", ""));
            }
        }
        return face;
    }

    private static List<String> lines(Path document) {
        try {
            return Files.readAllLines(document);
        } catch (IOException e) {
            throw new IllegalStateException(e);
        }
    }

    private static void nothingElse() {
        Class<?> type = LetterRepository.class;
        Check.same("final", Modifier.isFinal(type.getModifiers()), true);
        Check.same("public", Modifier.isPublic(type.getModifiers()), true);
        Constructor<?>[] constructors = type.getDeclaredConstructors();
        Check.same("constructors", constructors.length, 1);
        Check.same("constructor", Modifier.isPublic(constructors[0].getModifiers()), true);
        Set<String> open = new TreeSet<>();
        for (Method m : type.getDeclaredMethods()) {
            if (Modifier.isPublic(m.getModifiers())) {
                open.add(m.getName());
            }
        }
        Check.same("methods", open.size(), 60);
        for (Method m : type.getDeclaredMethods()) {
            if (!Modifier.isPublic(m.getModifiers())) {
                isPrivate(m);
                Check.same("a private method with a public one's name: " + m, open.contains(m.getName()), false);
            }
        }
        for (Field f : type.getDeclaredFields()) {
            isPrivate(f);
            boolean isStatic = Modifier.isStatic(f.getModifiers());
            Check.same("a static field is final: " + f, isStatic && !Modifier.isFinal(f.getModifiers()), false);
        }
    }

    private static void isPrivate(Member member) {
        Check.same("private: " + member, Modifier.isPrivate(member.getModifiers()) || member.isSynthetic(), true);
    }
}
