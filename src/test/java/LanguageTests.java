import java.io.IOException;
import java.lang.reflect.Constructor;
import java.lang.reflect.Field;
import java.lang.reflect.Method;
import java.lang.reflect.Modifier;
import java.nio.file.Files;
import java.nio.file.Path;
import java.util.ArrayList;
import java.util.Arrays;
import java.util.List;
import java.util.Set;
import java.util.TreeSet;
import java.util.regex.Matcher;
import java.util.regex.Pattern;

/** The document's face, and of LANGUAGE.md what can be seen from outside or by looking for words. */
public final class LanguageTests {
    private static final Path SOURCE = Path.of("src/main/java/MixElection.java");

    private static final List<String> FACE = List.of(
        "boolean secret(int, int)", "int key()", "int voter()", "long cast(int, int, int)",
        "long castPair(int, int, int)", "int close()", "boolean place(int, int, int)",
        "boolean forge(int, int, int)", "int mix()", "int shadow()", "int coin(int)", "int share(int)",
        "int tally()", "int count(int)", "int about(int)", "int list(int, int, int)", "int shadowOf(int, int)",
        "int shown(int, int)", "int given(int, int)", "long entry(int, int)", "long chain(int)");

    private static final List<String> FORBIDDEN = List.of(
        "\\bthrows?\\b", "\\btry\\b", "\\bcatch\\b", "\\bsynchronized\\b", "\\bassert\\b", "->", "::", "Exact\\b",
        "\\bequals\\b", "\\bhashCode\\b", "\\btoString\\b", "\\bpackage\\b", "\\bThread\\b", "\\bRandom\\b",
        "\\bSystem\\b", "\\bvolatile\\b", "\\bnative\\b", "\\bstatic\\s*\\{");

    public static void main(String[] args) throws IOException {
        String code = Files.readString(SOURCE).replaceAll("(?s)/\\*.*?\\*/", "").replaceAll("//[^\n]*", "");
        face();
        members();
        words(code);
        methodLengths(code);
        Due.end("LanguageTests");
    }

    private static String signature(Method method) {
        List<String> types = new ArrayList<>();
        for (Class<?> type : method.getParameterTypes()) {
            types.add(type.getName());
        }
        return method.getReturnType().getName() + " " + method.getName() + "(" + String.join(", ", types) + ")";
    }

    private static void face() {
        Set<String> found = new TreeSet<>();
        for (Method method : MixElection.class.getDeclaredMethods()) {
            if (!Modifier.isPrivate(method.getModifiers())) {
                found.add(signature(method));
                Due.yes(method + " is public, not static", method.getModifiers() == Modifier.PUBLIC);
            }
        }
        Due.yes("the methods of the face: " + found, found.equals(new TreeSet<>(FACE)));
        Constructor<?>[] constructors = MixElection.class.getDeclaredConstructors();
        Due.same("constructors", constructors.length, 1);
        Due.yes("constructor", Arrays.equals(constructors[0].getParameterTypes(),
            new Class<?>[] {int.class, int.class, int.class, int.class}));
        Due.yes("public constructor", Modifier.isPublic(constructors[0].getModifiers()));
        Due.same("class", MixElection.class.getModifiers(), Modifier.PUBLIC | Modifier.FINAL);
        Due.same("NONE", MixElection.NONE, -1);
        for (Field field : MixElection.class.getDeclaredFields()) {
            Due.yes(field + " is hidden", field.getName().equals("NONE") || Modifier.isPrivate(field.getModifiers()));
        }
    }

    private static List<Class<?>> classes() {
        List<Class<?>> all = new ArrayList<>(List.of(MixElection.class.getDeclaredClasses()));
        all.add(MixElection.class);
        return all;
    }

    private static void members() {
        Set<String> faceNames = new TreeSet<>();
        for (String signature : FACE) {
            faceNames.add(signature.substring(signature.indexOf(' ') + 1, signature.indexOf('(')));
        }
        Due.yes("at most twelve classes", classes().size() <= 12);
        for (Class<?> type : classes()) {
            boolean isInside = type != MixElection.class;
            Due.yes(type + " is static", !isInside || Modifier.isStatic(type.getModifiers()));
            int ownFields = 0;
            for (Field field : type.getDeclaredFields()) {
                ownFields += Modifier.isStatic(field.getModifiers()) ? 0 : 1;
                Due.yes(field + " is final if static",
                    !Modifier.isStatic(field.getModifiers()) || Modifier.isFinal(field.getModifiers()));
            }
            Due.yes(type + " has at most twenty fields", ownFields <= 20);
            for (Method method : type.getDeclaredMethods()) {
                Due.yes(method + " takes at most seven", method.getParameterCount() <= 7);
                boolean isFace = Modifier.isPublic(method.getModifiers());
                Due.yes(method + " bears no name of the face", isFace || !faceNames.contains(method.getName()));
            }
        }
    }

    private static void words(String code) {
        for (String word : FORBIDDEN) {
            Due.no("found " + word, Pattern.compile(word).matcher(code).find());
        }
        Matcher imports = Pattern.compile("import ([^;]*);").matcher(code);
        while (imports.find()) {
            Due.yes("import of " + imports.group(1), imports.group(1).equals("java.util.Arrays"));
        }
        Matcher calls = Pattern.compile("\\b(Math|Arrays|Integer|Long)\\.(\\w+)").matcher(code);
        while (calls.find()) {
            Due.yes("call of " + calls.group(), Set.of("max", "min", "fill").contains(calls.group(2)));
        }
        for (int i = 0; i < code.length(); i++) {
            Due.yes("character " + i, code.charAt(i) < 128);
        }
    }

    /** By indentation: a method's or constructor's head ends in a brace, its end is a brace at the same depth. */
    private static void methodLengths(String code) {
        String[] lines = code.split("\n");
        int from = -1;
        for (int i = 0; i < lines.length; i++) {
            if (lines[i].matches("( {4}){1,2}\\S.*\\) \\{") && from < 0) {
                from = i;
            } else if (from >= 0 && lines[i].equals(lines[from].replaceAll("\\S.*", "") + "}")) {
                Due.yes(lines[from].trim() + " has at most sixty lines", i - from + 1 <= 60);
                from = -1;
            }
        }
        Due.yes("each method has an end", from < 0);
    }
}
