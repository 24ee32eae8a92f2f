import java.io.IOException;
import java.lang.reflect.Constructor;
import java.lang.reflect.Field;
import java.lang.reflect.Method;
import java.lang.reflect.Modifier;
import java.nio.charset.StandardCharsets;
import java.nio.file.Files;
import java.nio.file.Path;
import java.util.Set;
import java.util.TreeSet;
import java.util.regex.Matcher;
import java.util.regex.Pattern;

/** The public face of the document, and rules of LANGUAGE.md that can be seen in the source; run it from the root. */
final class FaceTest {
    private static final Check check = new Check();
    private static final String[] FACE = {
        "int points(int)", "int put(int,int,int)", "int at(int,int)", "int cut(int,int)", "int paths()",
        "int place(int,int,int)", "int town()", "int stretch(int)", "int back()", "int triangles(int)",
        "int rounds(int)", "int walls(int,int)", "int wall(int,int,int)", "int holdWall(int,int,int)",
        "int wallOf(int,int)", "long value(int)", "int roots(int,int)", "int root(int,int)",
        "int switched(int,int)", "int sum(int,int)", "long gauge(int,int)", "int feed(int,int)", "int wipe()",
        "int read()", "int spell(int)", "int hold(int)", "int lose(int)", "int taken(int,int)",
        "long number(int,int)", "int row(int,int)", "int set(int,int,int)", "int judge(int)", "int image()",
        "int undo()", "int count(int)",
    };

    public static void main(String[] args) throws IOException {
        constants();
        members();
        noNameTwice();
        source();
        check.end();
    }

    private static void constants() {
        check.due("BAD", CutDistances.BAD, -1);
        check.due("NOT", CutDistances.NOT, -2);
        check.due("FULL", CutDistances.FULL, -3);
        check.due("STATE", CutDistances.STATE, -5);
        check.due("SPENT", CutDistances.SPENT, -7);
        check.due("NO", CutDistances.NO, Long.MIN_VALUE);
    }

    private static void members() {
        Class<?> c = CutDistances.class;
        check.holds("public and final", Modifier.isPublic(c.getModifiers()) && Modifier.isFinal(c.getModifiers()));
        Set<String> methods = new TreeSet<>();
        for (Method m : c.getDeclaredMethods()) {
            if (!Modifier.isPrivate(m.getModifiers())) {
                methods.add(told(m));
                check.holds(m + " is public", Modifier.isPublic(m.getModifiers()));
                check.holds(m + " is no static one", !Modifier.isStatic(m.getModifiers()));
            }
        }
        check.holds("the face's methods: " + methods, methods.equals(new TreeSet<>(Set.of(FACE))));
        Set<String> fields = new TreeSet<>();
        for (Field f : c.getDeclaredFields()) {
            if (!Modifier.isPrivate(f.getModifiers())) {
                fields.add(f.getName());
            }
        }
        check.holds("the constants: " + fields,
            fields.equals(new TreeSet<>(Set.of("BAD", "NOT", "FULL", "STATE", "SPENT", "NO"))));
        Constructor<?>[] made = c.getDeclaredConstructors();
        check.holds("one constructor", made.length == 1 && made[0].getParameterCount() == 0
            && Modifier.isPublic(made[0].getModifiers()));
    }

    private static String told(Method m) {
        StringBuilder text = new StringBuilder(m.getReturnType() + " " + m.getName() + "(");
        for (int i = 0; i < m.getParameterCount(); i++) {
            text.append(i == 0 ? "" : ",").append(m.getParameterTypes()[i]);
        }
        return text.append(")").toString();
    }

    private static void noNameTwice() {
        Set<String> names = new TreeSet<>();
        for (String method : FACE) {
            names.add(method.replaceAll(".* |\\(.*", ""));
        }
        for (Method m : CutDistances.class.getDeclaredMethods()) {
            check.holds(m.getName() + " is private and public",
                Modifier.isPublic(m.getModifiers()) || !names.contains(m.getName()));
        }
        check.holds("at most twelve classes", CutDistances.class.getDeclaredClasses().length < 12);
        for (Class<?> inside : CutDistances.class.getDeclaredClasses()) {
            check.holds(inside + " is static", Modifier.isStatic(inside.getModifiers()));
            check.holds(inside + " has some twenty fields", inside.getDeclaredFields().length <= 20);
            for (Method m : inside.getDeclaredMethods()) {
                check.holds(m + " bears a name of the face", !names.contains(m.getName()));
                check.holds(m + " takes at most seven", m.getParameterCount() <= 7);
            }
        }
    }

    private static void source() throws IOException {
        String text = Files.readString(Path.of("src/main/java/CutDistances.java"), StandardCharsets.US_ASCII);
        String code = text.replaceAll("(?s)/\\*.*?\\*/", "").replaceAll("//[^\n]*", "");
        String[] ruledOut = {
            "throw", "throws", "try", "catch", "finally", "synchronized", "assert", "import", "package", "volatile",
            "native", "protected", "double", "float", "Exact\\w*", "Object", "hashCode", "equals", "toString",
        };
        for (String word : ruledOut) {
            Matcher found = Pattern.compile("\\b" + word + "\\b").matcher(code);
            check.holds("'" + word + "' is ruled out", !found.find());
        }
        check.holds("no lambda, no method reference", !code.contains("->") && !code.contains("::"));
        Matcher called = Pattern.compile("\\b([A-Z][a-zA-Z]*)\\.([a-z]\\w*)").matcher(code);
        Set<String> allowed = Set.of("Math.min", "Math.max", "Math.abs", "Math.floorMod", "System.arraycopy");
        while (called.find()) {
            check.holds(called.group() + " is looked at", allowed.contains(called.group())
                || called.group().equals("Long.MIN_VALUE"));
        }
        int line = 0;
        int start = 0;
        for (String row : code.split("\n")) {
            line++;
            check.holds("line " + line + " has at most 120 signs", row.length() <= 120);
            if (row.matches(" {4}(?: {4})?(?:private|public) [^=;]*\\{")) {
                start = line;
            }
            if (row.matches(" {4}(?: {4})?\\}")) {
                check.holds("the method at " + start + " is short", line - start < 60 || start == 0);
                start = 0;
            }
        }
    }
}
