import java.io.IOException;
import java.lang.reflect.Constructor;
import java.lang.reflect.Field;
import java.lang.reflect.Method;
import java.lang.reflect.Modifier;
import java.nio.file.Files;
import java.nio.file.Path;
import java.util.ArrayList;
import java.util.List;
import java.util.Set;
import java.util.TreeSet;
import java.util.regex.Matcher;
import java.util.regex.Pattern;

/** Rules of LANGUAGE.md that can be seen in the source's words or in the compiled classes. */
public final class LanguageTest {
    private static final Path SOURCE = Path.of("src/main/java/RudeCoupons.java");
    private static final String FACE = "back() best(int,int) count(int) doing(int,int) fault() forget() give(int,int,int) "
            + "giveBest(int) heard(int) keep() keepOne(int,int,int) lay() letGo(int,int) more(int) net(int) "
            + "occasion(int,int) pass(int) person(int,int) ration(int) rationFor(int) seen(int,int,int) shared(int) "
            + "take(int) undo() wipe() without() write(int) year(int,int)";

    public static void main(String[] args) throws IOException {
        face();
        classesInside();
        words();
        lengthsOfMethods();
        objectsAreMadeInConstructors();
        Check.end();
    }

    private static String signatureOf(Method method) {
        List<String> types = new ArrayList<>();
        for (Class<?> type : method.getParameterTypes()) {
            types.add(type.getName());
        }
        return method.getName() + "(" + String.join(",", types) + ")";
    }

    private static void face() {
        Class<?> type = RudeCoupons.class;
        Check.due("public and final", type.getModifiers() & (Modifier.PUBLIC | Modifier.FINAL), Modifier.PUBLIC | Modifier.FINAL);
        Set<String> open = new TreeSet<>();
        Set<String> names = new TreeSet<>();
        for (Method method : type.getDeclaredMethods()) {
            if (!Modifier.isPrivate(method.getModifiers())) {
                open.add(signatureOf(method));
                names.add(method.getName());
                Check.same(method.getName(), Modifier.toString(method.getModifiers()) + method.getReturnType(), "publicint");
            }
        }
        Check.same("the face", String.join(" ", open), FACE);
        for (Class<?> each : type.getNestMembers()) {
            for (Method method : each.getDeclaredMethods()) {
                boolean ofFace = each == type && Modifier.isPublic(method.getModifiers());
                Check.due(method + " bears a public name", !ofFace && names.contains(method.getName()) ? 1 : 0, 0);
            }
        }
        Set<String> constants = new TreeSet<>();
        for (Field field : type.getDeclaredFields()) {
            if (!Modifier.isPrivate(field.getModifiers())) {
                constants.add(field.getName());
            }
            Check.due(field + " static but not final",
                    Modifier.isStatic(field.getModifiers()) && !Modifier.isFinal(field.getModifiers()) ? 1 : 0, 0);
        }
        Check.same("the constants", String.join(" ", constants), "BAD FULL NO NONE");
        Constructor<?>[] constructors = type.getDeclaredConstructors();
        Check.due("constructors", constructors.length, 1);
        Check.due("without parameters", constructors[0].getParameterCount(), 0);
    }

    private static void classesInside() {
        Class<?>[] members = RudeCoupons.class.getNestMembers();
        Check.due("twelve classes at most", members.length <= 12 ? 1 : 0, 1);
        for (Class<?> each : members) {
            Check.due(each + " static", each == RudeCoupons.class || Modifier.isStatic(each.getModifiers()) ? 1 : 0, 1);
            int fields = 0;
            for (Field field : each.getDeclaredFields()) {
                fields += Modifier.isStatic(field.getModifiers()) ? 0 : 1;
            }
            Check.due(each + " twenty fields at most", fields <= 20 ? 1 : 0, 1);
            for (Method method : each.getDeclaredMethods()) {
                Check.due(method + " seven parameters at most", method.getParameterCount() <= 7 ? 1 : 0, 1);
            }
        }
    }

    /** The source without comments, and without what stands between quotes. */
    private static String code() throws IOException {
        String source = Files.readString(SOURCE);
        source = Pattern.compile("(?s)/\\*.*?\\*/").matcher(source).replaceAll(found -> found.group().replaceAll("[^\n]", ""));
        return source.replaceAll("//[^\n]*", "").replaceAll("\"[^\"\n]*\"", "\"\"").replaceAll("'[^'\n]*'", "' '");
    }

    private static void words() throws IOException {
        String code = code();
        String[] forbidden = {"throw", "throws", "try", "catch", "finally", "synchronized", "assert", "package", "import",
            "protected", "native", "volatile", "transient", "equals", "hashCode", "toString", "Exact", "Random",
            "currentTimeMillis", "nanoTime", "Thread", "File", "getenv", "double", "float", "Object", "var"};
        for (String word : forbidden) {
            Check.due("the word " + word, Pattern.compile("\\b\\w*" + word + "\\b").matcher(code).results()
                    .filter(found -> found.group().equals(word) || word.equals("Exact")).count(), 0);
        }
        Check.due("lambdas and references", code.contains("->") || code.contains("::") ? 1 : 0, 0);
        Check.due("signs above 127", code.chars().filter(sign -> sign > 127).count(), 0);
        Check.due("tabs", code.indexOf('\t'), -1);
        Check.due("loops without an end", Pattern.compile("while\\s*\\(true\\)|for\\s*\\(;;").matcher(code).results().count(), 0);
    }

    private static final Pattern METHOD = Pattern.compile("^( {4}| {8})(?! )[^=;{}]*\\)\\s*\\{\\s*$");

    private static void lengthsOfMethods() throws IOException {
        String[] lines = code().split("\n");
        int found = 0;
        for (int line = 0; line < lines.length; line++) {
            Matcher head = METHOD.matcher(lines[line]);
            if (head.matches()) {
                int end = line;
                while (end < lines.length && !lines[end].equals(head.group(1) + "}")) {
                    end++;
                }
                Check.due("length of" + lines[line] + " at most sixty", Math.max(60, end - line + 1), 60);
                found++;
            }
        }
        Check.due("methods found", Math.min(found, 50), 50);
    }

    /** All calls of one run share one room: only constructors and fields make anything. */
    private static void objectsAreMadeInConstructors() throws IOException {
        String[] lines = code().split("\n");
        String head = "";
        for (String line : lines) {
            if (METHOD.matcher(line).matches() && !line.trim().startsWith("for") && !line.trim().startsWith("if")) {
                head = line.trim();
            }
            boolean makes = Pattern.compile("\\bnew\\b|\\bclone\\b|copyOf").matcher(line).find();
            boolean field = line.matches("^( {4}| {8})(private )?(final )?[A-Z]?[\\w\\[\\]]+ \\w+ = new .*;$");
            boolean constructor = head.matches("(public )?(RudeCoupons|Shelf)\\(.*");
            Check.due(line.trim() + " in " + head, makes && !field && !constructor ? 1 : 0, 0);
        }
    }
}
