import java.io.IOException;
import java.lang.reflect.Constructor;
import java.lang.reflect.Executable;
import java.lang.reflect.Field;
import java.lang.reflect.Member;
import java.lang.reflect.Method;
import java.lang.reflect.Modifier;
import java.nio.file.Files;
import java.nio.file.Path;
import java.util.Set;
import java.util.StringJoiner;
import java.util.TreeSet;
import java.util.regex.Matcher;
import java.util.regex.Pattern;

/** The face of the class, and those rules of LANGUAGE.md that can be seen without reading like a person. */
public final class LanguageTest {
    private static final String[] WORDS_RULED_OUT = {
        "throw", "throws", "try", "catch", "synchronized", "assert", "volatile", "native", "System.out",
        "System.nanoTime", "Random", "Thread", "Exception", "Exact", "hashCode", "toString", "protected",
    };
    private static final int MOST_LINES = 60;

    private static final Checks checks = new Checks();

    public static void main(String[] args) throws IOException, IllegalAccessException {
        face(new Document());
        insides();
        source(Files.readString(Path.of("src/main/java/LoadYard.java")));
        checks.finish();
    }

    /** What is public of the class, a line each, has to be the document's face, without the names of arguments. */
    private static void face(Document document) throws IllegalAccessException {
        int mods = LoadYard.class.getModifiers();
        checks.due("public and final", Modifier.isPublic(mods) && Modifier.isFinal(mods) ? 1 : 0, 1);
        Set<String> want = new TreeSet<>();
        for (String line : document.face()) {
            want.add(line.replaceAll("(int) \\w+(?=[,)])", "$1"));
        }
        Set<String> found = new TreeSet<>();
        for (Method m : LoadYard.class.getDeclaredMethods()) {
            if (isSeen(m)) {
                found.add(Modifier.toString(m.getModifiers()) + " " + m.getReturnType() + " " + m.getName()
                    + arguments(m));
            }
        }
        for (Constructor<?> c : LoadYard.class.getDeclaredConstructors()) {
            found.add(Modifier.toString(c.getModifiers()) + " " + c.getName() + arguments(c));
        }
        for (Field f : LoadYard.class.getDeclaredFields()) {
            if (isSeen(f)) {
                found.add(Modifier.toString(f.getModifiers()) + " " + f.getType() + " " + f.getName() + value(f) + ";");
            }
        }
        checks.due("the face " + found + " is the document's " + want, found.equals(want) ? 1 : 0, 1);
        checks.due("what it is made of", LoadYard.class.getSuperclass() == Object.class ? 1 : 0, 1);
        checks.due("interfaces, which would add to the face", LoadYard.class.getInterfaces().length, 0);
    }

    private static boolean isSeen(Member member) {
        return !Modifier.isPrivate(member.getModifiers()) && !member.isSynthetic();
    }

    private static String value(Field f) throws IllegalAccessException {
        return Modifier.isStatic(f.getModifiers()) && f.getType() == int.class ? " = " + f.getInt(null) : "";
    }

    private static String arguments(Executable call) {
        StringJoiner types = new StringJoiner(", ", "(", ");");
        for (Class<?> type : call.getParameterTypes()) {
            types.add(type.getName());
        }
        return types.toString();
    }

    private static Set<String> faceNames() {
        Set<String> names = new TreeSet<>();
        for (Method m : LoadYard.class.getDeclaredMethods()) {
            if (isSeen(m)) {
                names.add(m.getName());
            }
        }
        return names;
    }

    private static void insides() {
        Set<String> names = faceNames();
        Class<?>[] inside = LoadYard.class.getDeclaredClasses();
        checks.due("twelve classes at most", inside.length < 12 ? 1 : 0, 1);
        for (Class<?> c : inside) {
            checks.due(c + " is static", Modifier.isStatic(c.getModifiers()) ? 1 : 0, 1);
            int open = c.getModifiers() & (Modifier.PUBLIC | Modifier.PROTECTED);
            checks.due(c + " is private or package-visible", open, 0);
            checks.due(c + " has twenty fields at most", c.getDeclaredFields().length <= 20 ? 1 : 0, 1);
            for (Method m : c.getDeclaredMethods()) {
                checks.due(m + " has a name of its own", names.contains(m.getName()) ? 1 : 0, 0);
                checks.due(m + " takes seven at most", m.getParameterCount() <= 7 ? 1 : 0, 1);
            }
        }
        for (Method m : LoadYard.class.getDeclaredMethods()) {
            boolean isPrivate = Modifier.isPrivate(m.getModifiers());
            checks.due(m + " has a name of its own", isPrivate && names.contains(m.getName()) ? 1 : 0, 0);
        }
        for (Field f : LoadYard.class.getDeclaredFields()) {
            boolean fine = !Modifier.isStatic(f.getModifiers()) || Modifier.isFinal(f.getModifiers());
            checks.due(f + " is final, if it is static", fine ? 1 : 0, 1);
        }
    }

    private static void source(String text) {
        String code = text.replaceAll("(?s)/\\*.*?\\*/", "").replaceAll("//[^\n]*", "");
        for (String word : WORDS_RULED_OUT) {
            Matcher m = Pattern.compile("\\b" + Pattern.quote(word) + "\\b").matcher(code);
            checks.due("the word " + word, m.find() ? 1 : 0, 0);
        }
        checks.due("a lambda", code.contains("->") ? 1 : 0, 0);
        checks.due("a method reference", code.contains("::") ? 1 : 0, 0);
        checks.due("a package line", code.contains("package ") ? 1 : 0, 0);
        checks.due("a static block", Pattern.compile("static\\s*\\{").matcher(code).find() ? 1 : 0, 0);
        Matcher imports = Pattern.compile("import ([^;]+);").matcher(code);
        while (imports.find()) {
            checks.due("import " + imports.group(1), imports.group(1).equals("java.util.Arrays") ? 1 : 0, 1);
        }
        for (int at = 0; at < text.length(); at++) {
            if (text.charAt(at) > 126) {
                checks.due("sign " + at, text.charAt(at), 126);
            }
        }
        shortMethods(code);
    }

    /** A method starts with a line that ends in ") {" and is no statement, and ends at its own indent. */
    private static void shortMethods(String code) {
        String[] lines = code.split("\n");
        Pattern head = Pattern.compile("^( +)(?!if|for|while|switch|else)[a-zA-Z].*\\) \\{$");
        int methods = 0;
        for (int at = 0; at < lines.length; at++) {
            Matcher m = head.matcher(lines[at]);
            if (!m.find()) {
                continue;
            }
            methods++;
            int end = at;
            while (!lines[end].equals(m.group(1) + "}")) {
                end++;
            }
            checks.due(lines[at].trim() + " is short", end - at + 1 <= MOST_LINES ? 1 : 0, 1);
        }
        checks.due("methods were looked at", methods > faceNames().size() ? 1 : 0, 1);
    }
}
