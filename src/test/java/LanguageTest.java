import java.io.IOException;
import java.lang.reflect.Field;
import java.lang.reflect.Method;
import java.lang.reflect.Modifier;
import java.nio.file.Files;
import java.nio.file.Path;
import java.util.Set;
import java.util.TreeSet;
import java.util.regex.Matcher;
import java.util.regex.Pattern;

// The public face, and those rules of ../shared/LANGUAGE.md that the source's text shows.
public final class LanguageTest {
    private static final Path SOURCE = Path.of("src/main/java/ThawWords.java");
    private static final String[] FACE = {
        "int type(long, int)", "int clear()", "int cape()", "int place(int, int)", "int warmth(int)", "int melts(int)",
        "int person(int, int)", "int says(int, int, int)", "int goes(int, int)", "int lantern(int)", "int go(int)",
        "int saying(int, int)", "int soundOf(int, int)", "int heard(int, int, int)", "int now(int)", "int anew()",
        "int when(int, int)", "int whole(int)", "int hours(int, int, int)", "int fits(int)", "int lanterns(int, int)",
        "int answers(int, int)", "int spoke(int)", "long odds(int, int, int, int, int)", "int rate(int, int)",
        "int keep(int)", "int back(int)", "int count(int)", "long trace()"};
    private static final String[] CONSTANTS = {"BAD", "STATE", "FULL", "NONE", "NO"};
    private static final String[] FORBIDDEN = {
        "\\bimport\\b", "\\bpackage\\b", "\\bthrow\\b", "\\bthrows\\b", "\\btry\\b", "\\bcatch\\b", "\\bfinally\\b",
        "\\bsynchronized\\b", "\\bassert\\b", "\\bvolatile\\b", "\\bnative\\b", "\\bvar\\b", "->", "::", "@",
        "\\bstatic\\s*\\{", "\\bSystem\\b", "\\bThread\\b", "\\bObject\\b", "\\bhashCode\\b", "\\btoString\\b",
        "\\bequals\\b", "Exact\\b", "\"\\s*\\+", "\\+\\s*\""};
    private static final Check c = new Check();

    public static void main(String[] args) throws IOException {
        face();
        String source = Files.readString(SOURCE);
        ascii(source);
        String code = withoutComments(source);
        for (String pattern : FORBIDDEN) c.due("rule 4 to 13: " + pattern, count(pattern, code), 0);
        staticFields(code);
        lengthOfMethods(code);
        c.due("rule 11: parameters", count("\\w+\\([^()]*(,[^(),]*){7}\\)\\s*\\{", code), 0);
        c.due("rule 11: at most 12 classes", Math.max(12, count("\\bclass\\b", code)), 12);
        c.end();
    }

    private static void face() {
        Set<String> wanted = new TreeSet<>(Set.of(FACE));
        Set<String> found = new TreeSet<>();
        for (Method m : ThawWords.class.getDeclaredMethods()) {
            if (m.isSynthetic()) continue;
            if (Modifier.isPrivate(m.getModifiers())) {
                c.due("rule 1: private " + m.getName(), bearsPublicName(m.getName()) ? 1 : 0, 0);
                continue;
            }
            c.due("rule 1: public " + m.getName(), m.getModifiers(), Modifier.PUBLIC);
            StringBuilder parameters = new StringBuilder();
            for (Class<?> p : m.getParameterTypes()) parameters.append(parameters.length() == 0 ? "" : ", ").append(p);
            found.add(m.getReturnType() + " " + m.getName() + "(" + parameters + ")");
        }
        c.due("rule 1: the methods are " + found, found.equals(wanted) ? 1 : 0, 1);
        Set<String> fields = new TreeSet<>();
        for (Field f : ThawWords.class.getDeclaredFields()) {
            if (Modifier.isPrivate(f.getModifiers())) continue;
            c.due("rule 1: constant " + f.getName(), f.getModifiers(), Modifier.PUBLIC | Modifier.STATIC | Modifier.FINAL);
            fields.add(f.getName());
        }
        c.due("rule 1: the constants are " + fields, fields.equals(new TreeSet<>(Set.of(CONSTANTS))) ? 1 : 0, 1);
        c.due("rule 1: the class", ThawWords.class.getModifiers(), Modifier.PUBLIC | Modifier.FINAL);
        c.due("rule 1: one constructor", ThawWords.class.getDeclaredConstructors().length, 1);
        for (Class<?> inner : ThawWords.class.getDeclaredClasses()) {
            c.due("rule 2: static " + inner.getName(), inner.getModifiers() & Modifier.STATIC, Modifier.STATIC);
            c.due("rule 2: " + inner.getName(), inner.getModifiers() & (Modifier.PUBLIC | Modifier.PROTECTED), 0);
            for (Method m : inner.getDeclaredMethods()) {
                c.due("rule 1: " + inner.getName() + "." + m.getName(), bearsPublicName(m.getName()) ? 1 : 0, 0);
            }
        }
    }

    private static boolean bearsPublicName(String name) {
        for (String method : FACE) if (method.contains(" " + name + "(")) return true;
        return false;
    }

    private static void ascii(String source) {
        int others = 0;
        for (char sign : source.toCharArray()) if (sign > 126 || sign < 32 && sign != '\n') others++;
        c.due("rule 3: signs that are not plain", others, 0);
    }

    private static void staticFields(String code) {
        Matcher m = Pattern.compile("\\bstatic\\s+(?!final|class|[\\w\\[\\]<>]+\\s+\\w+\\()").matcher(code);
        c.due("rule 5: static fields that are not final", m.find() ? 1 : 0, 0);
    }

    // A method starts at a line that ends its head by a brace, four or eight blanks in.
    private static void lengthOfMethods(String code) {
        String indent = null;
        String head = "";
        int from = 0;
        String[] lines = code.split("\n", -1);
        for (int i = 0; i < lines.length; i++) {
            Matcher m = Pattern.compile("( {4}| {8})(?! )[\\w\\[\\]. ]+\\([^;]*\\) \\{").matcher(lines[i]);
            if (indent == null && m.matches() && !lines[i].contains("class")) {
                indent = m.group(1);
                head = lines[i].trim();
                from = i;
            } else if (indent != null && lines[i].equals(indent + "}")) {
                c.due("rule 11: at most 60 lines of " + head, Math.max(60, i - from + 1), 60);
                indent = null;
            }
        }
    }

    private static String withoutComments(String source) {
        return source.replaceAll("//[^\n]*", "").replaceAll("(?s)/\\*.*?\\*/", "");
    }

    private static int count(String pattern, String code) {
        Matcher m = Pattern.compile(pattern).matcher(code);
        int many = 0;
        while (m.find()) many++;
        return many;
    }
}
