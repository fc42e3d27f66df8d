import java.lang.reflect.Constructor;
import java.lang.reflect.Field;
import java.lang.reflect.Method;
import java.lang.reflect.Modifier;
import java.nio.file.Files;
import java.nio.file.Path;
import java.util.Set;
import java.util.TreeSet;
import java.util.regex.Matcher;
import java.util.regex.Pattern;

/** The public face is the document's, and nothing else can be seen from outside. */
public final class FaceTest {
    public static void main(String[] args) throws Exception {
        Check check = new Check();
        check.same("NONE", CellCycler.NONE, -1);
        check.same("FULL", CellCycler.FULL, -2);
        check.same("WRONG_STATE", CellCycler.WRONG_STATE, -3);
        check.same("final", Modifier.isFinal(CellCycler.class.getModifiers()), true);

        Set<String> due = new TreeSet<>();
        String document = Files.readString(Path.of("../shared/DOC.md"));
        String face = document.substring(document.indexOf("```java"));
        face = face.substring(0, face.indexOf("\n}"));
        Matcher m = Pattern.compile("public (int|long|float|double) (\\w+)\\(([^)]*)\\)").matcher(face);
        while (m.find()) {
            due.add(m.group(1) + " " + m.group(2) + "(" + m.group(3).replaceAll(" \\w+(,|$)", "$1")
                    .replace(" ", "") + ")");
        }
        Set<String> got = new TreeSet<>();
        for (Method method : CellCycler.class.getDeclaredMethods()) {
            if (!Modifier.isPrivate(method.getModifiers())) {
                StringBuilder types = new StringBuilder();
                for (Class<?> type : method.getParameterTypes()) {
                    types.append(types.length() == 0 ? "" : ",").append(type.getName());
                }
                got.add(method.getReturnType().getName() + " " + method.getName() + "(" + types + ")");
            }
        }
        check.same("methods", got, due);
        check.same("number of methods", due.size(), 60);
        for (Field field : CellCycler.class.getDeclaredFields()) {
            check.same(field.getName() + " can be seen", !Modifier.isPrivate(field.getModifiers()),
                    Set.of("NONE", "FULL", "WRONG_STATE").contains(field.getName()));
        }
        Constructor<?>[] constructors = CellCycler.class.getConstructors();
        check.same("constructors", constructors.length, 1);
        check.finish();
    }
}
