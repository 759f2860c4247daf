import java.io.IOException;
import java.lang.reflect.Field;
import java.lang.reflect.Method;
import java.lang.reflect.Modifier;
import java.nio.file.Files;
import java.nio.file.Path;
import java.util.Arrays;
import java.util.Set;
import java.util.TreeSet;
import java.util.stream.Collectors;

/** The face is the document's and nothing more, and the source holds no word that LANGUAGE.md leaves out. */
public final class FaceTest {
    private static final String[] METHODS = {"int tell(int, int, int, int)", "int column(int, int, long)", "int given(int, long)",
        "long average(int)", "int packed(int, int)", "int formula(int, int, int, long, long)", "int part(int, int)",
        "long score(int, int)", "int told(int)", "int about(int, int)", "int partOf(int, int)", "int top(int, int)",
        "int clear()", "int forget()"};
    private static final String[] NOT_THERE = {"import ", "Math.", "Double.", "Float.", "System.out", "Object ", "catch", "throw",
        "->", "::", "static {", "@", "synchronized", "assert", "equals(", "hashCode(", "while (true", "0x1p"};

    public static void main(String[] args) throws IOException {
        Check check = new Check();
        check.due("BAD", ScoreFormulas.BAD, -1);
        check.due("STATE", ScoreFormulas.STATE, -2);
        check.due("FULL", ScoreFormulas.FULL, -3);
        check.due("NONE", ScoreFormulas.NONE, -9);
        check.due("final", Modifier.isFinal(ScoreFormulas.class.getModifiers()) ? 1 : 0, 1);
        check.due("constructors", ScoreFormulas.class.getDeclaredConstructors().length, 1);
        methods(check);
        fields(check);
        String source = Files.readString(Path.of("src/main/java/ScoreFormulas.java"));
        for (String word : NOT_THERE) check.due("no " + word, source.contains(word) ? 1 : 0, 0);
        check.finish("FaceTest");
    }

    private static void methods(Check check) {
        Set<String> shown = new TreeSet<>();
        Set<String> hidden = new TreeSet<>();
        for (Method method : ScoreFormulas.class.getDeclaredMethods()) {
            if (Modifier.isPrivate(method.getModifiers())) {
                hidden.add(method.getName());
                continue;
            }
            String parameters = Arrays.stream(method.getParameterTypes()).map(Class::getName).collect(Collectors.joining(", "));
            shown.add(method.getReturnType().getName() + " " + method.getName() + "(" + parameters + ")");
            check.due(method.getName() + " is public", Modifier.isPublic(method.getModifiers()) ? 1 : 0, 1);
        }
        check.due("methods " + shown, shown.equals(new TreeSet<>(Arrays.asList(METHODS))) ? 1 : 0, 1);
        for (Class<?> inside : ScoreFormulas.class.getDeclaredClasses()) {
            for (Method method : inside.getDeclaredMethods()) hidden.add(method.getName());
        }
        for (String method : METHODS) {
            String name = method.substring(method.indexOf(' ') + 1, method.indexOf('('));
            check.due("another " + name, hidden.contains(name) ? 1 : 0, 0);
        }
    }

    private static void fields(Check check) {
        for (Field field : ScoreFormulas.class.getDeclaredFields()) {
            boolean constant = Set.of("BAD", "STATE", "FULL", "NONE").contains(field.getName());
            check.due(field.getName(), Modifier.isPublic(field.getModifiers()) ? 1 : 0, constant ? 1 : 0);
            check.due(field.getName(), Modifier.isPrivate(field.getModifiers()) ? 1 : 0, constant ? 0 : 1);
        }
    }
}
