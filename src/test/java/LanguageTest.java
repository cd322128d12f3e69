import java.io.IOException;
import java.lang.reflect.Constructor;
import java.lang.reflect.Field;
import java.lang.reflect.Method;
import java.lang.reflect.Modifier;
import java.nio.file.Files;
import java.nio.file.Path;
import java.util.Arrays;
import java.util.Set;
import java.util.TreeSet;
import java.util.regex.Matcher;
import java.util.regex.Pattern;

/** The face of the class, and those rules of LANGUAGE.md that can be seen without reading like a person. */
public final class LanguageTest {
    private static final String[] FACE = {
        "net/1", "road/4", "room/2", "of/2", "load/4", "resize/2", "hold/2", "told/2", "is/2", "roads/2", "way/3",
        "price/2", "cheap/1", "send/3", "sent/2", "fill/1", "empty/1", "many/1", "over/0", "ones/0", "wall/1",
        "call/1", "bars/0", "barring/0", "meets/1", "measure/2", "barred/0", "share/2", "whole/0", "buy/0",
        "keep/0", "back/0",
    };
    private static final String[] WORDS_RULED_OUT = {
        "throw", "throws", "try", "catch", "synchronized", "assert", "volatile", "native", "System.out",
        "System.nanoTime", "Random", "Thread", "Exception", "Exact", "hashCode", "toString", "protected",
    };
    private static final int MOST_LINES = 60;

    private static final Checks checks = new Checks();

    public static void main(String[] args) throws IOException {
        face();
        constants();
        insides();
        source(Files.readString(Path.of("src/main/java/LoadYard.java")));
        checks.finish();
    }

    private static void face() {
        int mods = LoadYard.class.getModifiers();
        checks.due("public and final", Modifier.isPublic(mods) && Modifier.isFinal(mods) ? 1 : 0, 1);
        Set<String> found = new TreeSet<>();
        for (Method m : LoadYard.class.getDeclaredMethods()) {
            if (Modifier.isPublic(m.getModifiers())) {
                found.add(m.getName() + "/" + m.getParameterCount());
                checks.due(m + " answers an int", m.getReturnType() == int.class ? 1 : 0, 1);
                for (Class<?> type : m.getParameterTypes()) {
                    checks.due(m + " takes ints", type == int.class ? 1 : 0, 1);
                }
            } else if (!m.isSynthetic()) {
                checks.due(m + " is private", Modifier.isPrivate(m.getModifiers()) ? 1 : 0, 1);
            }
        }
        Set<String> want = new TreeSet<>(Arrays.asList(FACE));
        checks.due("the face " + found, found.equals(want) ? 1 : 0, 1);
        Constructor<?>[] made = LoadYard.class.getDeclaredConstructors();
        checks.due("one constructor", made.length, 1);
        checks.due("without arguments", made[0].getParameterCount(), 0);
    }

    private static void constants() {
        checks.due("NUMBER", LoadYard.NUMBER, -1);
        checks.due("FULL", LoadYard.FULL, -2);
        checks.due("KIND", LoadYard.KIND, -3);
        checks.due("NONE", LoadYard.NONE, -4);
        checks.due("STATE", LoadYard.STATE, -5);
        int open = 0;
        for (Field f : LoadYard.class.getDeclaredFields()) {
            if (!Modifier.isPrivate(f.getModifiers())) {
                open++;
            }
        }
        checks.due("fields that aren't private", open, 5);
    }

    private static void insides() {
        Set<String> names = new TreeSet<>();
        for (String row : FACE) {
            names.add(row.substring(0, row.indexOf('/')));
        }
        Class<?>[] inside = LoadYard.class.getDeclaredClasses();
        checks.due("twelve classes at most", inside.length < 12 ? 1 : 0, 1);
        for (Class<?> c : inside) {
            checks.due(c + " is static", Modifier.isStatic(c.getModifiers()) ? 1 : 0, 1);
            checks.due(c + " has twenty fields at most", c.getDeclaredFields().length <= 20 ? 1 : 0, 1);
            for (Method m : c.getDeclaredMethods()) {
                checks.due(m + " has a name of its own", names.contains(m.getName()) ? 1 : 0, 0);
                checks.due(m + " takes seven at most", m.getParameterCount() <= 7 ? 1 : 0, 1);
            }
        }
        for (Method m : LoadYard.class.getDeclaredMethods()) {
            boolean isPrivate = Modifier.isPrivate(m.getModifiers());
            checks.due(m + " has a name of its own", isPrivate && names.contains(m.getName()) ? 1 : 0, 0);
        }
        for (Field f : LoadYard.class.getDeclaredFields()) {
            boolean fine = !Modifier.isStatic(f.getModifiers()) || Modifier.isFinal(f.getModifiers());
            checks.due(f + " is final, if it is static", fine ? 1 : 0, 1);
        }
    }

    private static void source(String text) {
        String code = text.replaceAll("(?s)/\\*.*?\\*/", "").replaceAll("//[^\n]*", "");
        for (String word : WORDS_RULED_OUT) {
            Matcher m = Pattern.compile("\\b" + Pattern.quote(word) + "\\b").matcher(code);
            checks.due("the word " + word, m.find() ? 1 : 0, 0);
        }
        checks.due("a lambda", code.contains("->") ? 1 : 0, 0);
        checks.due("a method reference", code.contains("::") ? 1 : 0, 0);
        checks.due("a package line", code.contains("package ") ? 1 : 0, 0);
        checks.due("a static block", Pattern.compile("static\\s*\\{").matcher(code).find() ? 1 : 0, 0);
        Matcher imports = Pattern.compile("import ([^;]+);").matcher(code);
        while (imports.find()) {
            checks.due("import " + imports.group(1), imports.group(1).equals("java.util.Arrays") ? 1 : 0, 1);
        }
        for (int at = 0; at < text.length(); at++) {
            if (text.charAt(at) > 126) {
                checks.due("sign " + at, text.charAt(at), 126);
            }
        }
        shortMethods(code);
    }

    /** A method starts with a line that ends in ") {" and is no statement, and ends at its own indent. */
    private static void shortMethods(String code) {
        String[] lines = code.split("\n");
        Pattern head = Pattern.compile("^( +)(?!if|for|while|switch|else)[a-zA-Z].*\\) \\{$");
        int methods = 0;
        for (int at = 0; at < lines.length; at++) {
            Matcher m = head.matcher(lines[at]);
            if (!m.find()) {
                continue;
            }
            methods++;
            int end = at;
            while (!lines[end].equals(m.group(1) + "}")) {
                end++;
            }
            checks.due(lines[at].trim() + " is short", end - at + 1 <= MOST_LINES ? 1 : 0, 1);
        }
        checks.due("methods were looked at", methods > FACE.length ? 1 : 0, 1);
    }
}
