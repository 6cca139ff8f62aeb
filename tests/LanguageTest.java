import java.lang.reflect.Field;
import java.lang.reflect.Member;
import java.lang.reflect.Method;
import java.lang.reflect.Modifier;
import java.nio.file.Files;
import java.nio.file.Path;
import java.util.ArrayList;
import java.util.Arrays;
import java.util.List;
import java.util.Set;
import java.util.TreeSet;

/** The rules of LANGUAGE.md that can be seen in the source word by word, or in the compiled class. */
public final class LanguageTest {
    private static final Check check = new Check("LanguageTest");
    private static final String[] FACE = {
        "int feed(int)", "int moveTo(int,int)", "int setRegion(int,int)", "int eraseLine(int)", "int eraseScreen(int)",
        "int insertRows(int)", "int deleteRows(int)", "int insertCells(int)", "int deleteCells(int)", "int keep()",
        "int back()", "int resize(int,int)", "int cell(int,int)", "int row(int,int)", "int line(int,int)",
        "int sign(int,int)", "int cursor(int,int)", "int ifWidth(int)", "int widthFor(int)", "int told(int)",
        "int undo()", "long digest()"};
    private static final Set<String> FORBIDDEN = Set.of(
        "package", "import", "throw", "throws", "try", "catch", "finally", "synchronized", "assert", "volatile",
        "native", "transient", "yield", "var", "Object", "equals", "hashCode", "toString", "Exception", "Thread",
        "java", "javax", "Random", "nanoTime", "currentTimeMillis", "float", "double", "getClass");

    public static void main(String[] args) throws Exception {
        face();
        classes();
        words(Files.readString(Path.of("src/main/java/PouredScreen.java")));
        check.end();
    }

    private static void face() {
        Set<String> found = new TreeSet<>();
        for (Method method : PouredScreen.class.getDeclaredMethods()) {
            if (Modifier.isPublic(method.getModifiers())) {
                found.add(signature(method));
            } else {
                privateOne(method);
            }
        }
        check.due("rule 1: the public methods", found.toString(), new TreeSet<>(Arrays.asList(FACE)).toString());
        Set<String> constants = new TreeSet<>();
        for (Field field : PouredScreen.class.getDeclaredFields()) {
            if (Modifier.isPublic(field.getModifiers())) {
                constants.add(field.getName());
            } else {
                privateOne(field);
            }
        }
        check.due("rule 1: the public constants", constants.toString(), "[BAD, FULL, NONE, STATE]");
        check.due("rule 1: a final class", Modifier.isFinal(PouredScreen.class.getModifiers()) ? 1 : 0, 1);
        check.due("rule 1: one constructor", PouredScreen.class.getDeclaredConstructors().length, 1);
    }

    private static String signature(Method method) {
        List<String> types = new ArrayList<>();
        for (Class<?> type : method.getParameterTypes()) {
            types.add(type.getName());
        }
        return method.getReturnType().getName() + " " + method.getName() + "(" + String.join(",", types) + ")";
    }

    private static void privateOne(Member member) {
        if (!member.isSynthetic()) {
            check.due("rule 1: " + member + " is private", Modifier.isPrivate(member.getModifiers()) ? 1 : 0, 1);
        }
    }

    private static void classes() {
        Set<String> names = new TreeSet<>();
        for (String method : FACE) {
            names.add(method.substring(method.indexOf(' ') + 1, method.indexOf('(')));
        }
        List<Class<?>> all = new ArrayList<>(Arrays.asList(PouredScreen.class.getDeclaredClasses()));
        check.due("rule 11: at most twelve classes", all.size() < 12 ? 1 : 0, 1);
        for (Class<?> inner : all) {
            check.due("rule 2: " + inner + " is static", Modifier.isStatic(inner.getModifiers()) ? 1 : 0, 1);
            check.due("rule 2: " + inner + " has no class inside", inner.getDeclaredClasses().length, 0);
            for (Method method : inner.getDeclaredMethods()) {
                check.due("rule 1: " + method + " has a name of its own", names.contains(method.getName()) ? 1 : 0, 0);
            }
        }
        all.add(PouredScreen.class);
        for (Class<?> one : all) {
            int fields = 0;
            for (Field field : one.getDeclaredFields()) {
                boolean isStatic = Modifier.isStatic(field.getModifiers());
                fields += isStatic ? 0 : 1;
                check.due("rule 5: " + field + " is final if static", isStatic && !Modifier.isFinal(field.getModifiers()) ? 1 : 0, 0);
            }
            check.due("rule 11: at most twenty fields in " + one, fields <= 20 ? 1 : 0, 1);
            for (Method method : one.getDeclaredMethods()) {
                check.due("rule 11: parameters of " + method, method.getParameterCount() <= 7 ? 1 : 0, 1);
            }
        }
    }

    private static void words(String source) {
        String code = source.replaceAll("(?s)/\\*.*?\\*/", "").replaceAll("//[^\n]*", "");
        for (String word : code.split("[^A-Za-z0-9_]+")) {
            check.due("rule 3 to 13: the word " + word, FORBIDDEN.contains(word) ? 1 : 0, 0);
        }
        for (String sign : new String[] {"->", "::", "@", "\"", "?>", "static {"}) {
            check.due("rule 2 to 10: the sign " + sign, code.contains(sign) ? 1 : 0, 0);
        }
        for (int k = 0; k < source.length(); k++) {
            if (source.charAt(k) > 126) {
                check.due("rule 3: a sign of the source", source.charAt(k), 126);
            }
        }
        lengths(code.split("\n"));
    }

    /** A method begins with a line that ends with ") {" where a member stands, and ends where its indent comes again. */
    private static void lengths(String[] lines) {
        for (int k = 0; k < lines.length; k++) {
            String indent = lines[k].startsWith("        ") ? "        " : "    ";
            boolean begins = lines[k].matches("( {4}){1,2}[A-Za-z][A-Za-z\\[\\] ]*\\(.*\\) \\{")
                && !lines[k].matches(" *(if|for|while|switch|else|do).*");
            for (int end = k; begins && end < lines.length; end++) {
                if (lines[end].equals(indent + "}")) {
                    check.due("rule 11: the length of" + lines[k], end - k < 60 ? 1 : 0, 1);
                    break;
                }
            }
        }
    }
}
