import java.io.IOException;
import java.lang.reflect.Constructor;
import java.lang.reflect.Field;
import java.lang.reflect.Method;
import java.lang.reflect.Modifier;
import java.nio.file.Files;
import java.nio.file.Path;
import java.util.Set;
import java.util.TreeSet;
import java.util.regex.Pattern;

/** What of LANGUAGE.md can be looked at from outside: the face, and words that the program does without. */
public final class LanguageTest {
    private static final Set<String> FACE = Set.of(
        "int mourner(int,int,int)", "int of(int,int)", "int set(int,int,int)", "int done(int,boolean)", "int list(int)",
        "int swap(int,int)", "int row(int,int,int)", "int feed(int)", "int island()", "int told(int)", "int pass(int)",
        "int on(int,int)", "int turn(int)", "int empty()", "int best(int,int)", "int see(int,int,int)",
        "int can(int,int,int)", "long odds(int,int)", "long mean(int)", "int plan(int,int)", "int ends(int)",
        "int book(int,int)", "int looked()", "int judge(int,int)", "int image()", "int undo()", "int act(int,int,int)",
        "int trace(int)", "int taken(int,int)", "int count(int)", "int tape(int,int,int)", "int item(int,int,long)",
        "long read(int,int)", "int shift(int,int,int,int,int)");
    private static final Set<String> CONSTANTS = Set.of("NONE", "BAD", "STATE", "FULL", "NO");
    private static final String[] WITHOUT = {
        "throw", "throws", "try", "catch", "finally", "synchronized", "assert", "import", "package", "native",
        "volatile", "Exception", "Error", "Object", "System\\.(?!arraycopy)", "Exact", "Thread", "float", "double",
        "->", "::", "hashCode", "toString",
    };

    public static void main(String[] args) throws IOException {
        face();
        String source = Files.readString(Path.of(args[0]));
        for (String word : WITHOUT) {
            String whole = Character.isLetter(word.charAt(0)) && !word.equals("Exact") ? "\\b" + word : word;
            String end = Character.isLetter(word.charAt(word.length() - 1)) ? "\\b" : "";
            Due.due("found " + word, Pattern.compile(whole + end).matcher(source).find() ? 1 : 0, 0);
        }
        Due.due("signs beyond 127", source.chars().filter(sign -> sign > 127).count(), 0);
        Due.due("longest method is short", longest(source) <= 60 ? 1 : 0, 1);
        Due.end();
    }

    private static void face() {
        Set<String> names = new TreeSet<>();
        int shown = 0;
        for (Method method : OneMourner.class.getDeclaredMethods()) {
            if (Modifier.isPublic(method.getModifiers())) {
                names.add(method.getName());
                shown++;
                String call = method.toString().replaceAll("^public (\\w+) OneMourner\\.", "$1 ");
                Due.due("face has " + call, FACE.contains(call) ? 1 : 0, 1);
            }
        }
        Due.due("calls", shown, FACE.size());
        for (Constructor<?> made : OneMourner.class.getDeclaredConstructors()) {
            Due.due("constructor without arguments", made.getParameterCount(), 0);
        }
        hidden(OneMourner.class, names);
        int classes = 1;
        for (Class<?> inside : OneMourner.class.getDeclaredClasses()) {
            classes++;
            Due.due(inside + " is static", Modifier.isStatic(inside.getModifiers()) ? 1 : 0, 1);
            Due.due(inside + " is shown outside", isShown(inside.getModifiers()) ? 1 : 0, 0);
            hidden(inside, names);
        }
        Due.due("at most twelve classes", classes <= 12 ? 1 : 0, 1);
    }

    private static boolean isShown(int modifiers) {
        return Modifier.isPublic(modifiers) || Modifier.isProtected(modifiers);
    }

    private static void hidden(Class<?> where, Set<String> names) {
        int fields = 0;
        for (Field field : where.getDeclaredFields()) {
            boolean isStatic = Modifier.isStatic(field.getModifiers());
            fields += isStatic ? 0 : 1;
            boolean constant = where == OneMourner.class && CONSTANTS.contains(field.getName());
            Due.due(field + " is private", Modifier.isPrivate(field.getModifiers()) ? 0 : 1, constant ? 1 : 0);
            Due.due(field + ", if static, is final", isStatic && !Modifier.isFinal(field.getModifiers()) ? 1 : 0, 0);
        }
        Due.due(where + " has at most twenty fields", fields <= 20 ? 1 : 0, 1);
        for (Method method : where.getDeclaredMethods()) {
            if (!Modifier.isPublic(method.getModifiers())) {
                Due.due(method + " is private", Modifier.isPrivate(method.getModifiers()) ? 1 : 0, 1);
                Due.due(method + " is named as no call", names.contains(method.getName()) ? 1 : 0, 0);
                Due.due(method + " takes at most seven", method.getParameterCount() <= 7 ? 1 : 0, 1);
            }
        }
    }

    /** A method ends where a brace stands as deep as its first line. */
    private static int longest(String source) {
        int longest = 0;
        int begun = -1;
        String deep = "";
        String[] lines = source.split("\n");
        for (int l = 0; l < lines.length; l++) {
            if (begun < 0 && lines[l].matches("\\s+(public|private)( static)? \\w+.*\\) \\{")) {
                begun = l;
                deep = lines[l].replaceAll("\\S.*", "");
            } else if (begun >= 0 && lines[l].equals(deep + "}")) {
                longest = Math.max(longest, l - begun + 1);
                begun = -1;
            }
        }
        return longest;
    }
}
