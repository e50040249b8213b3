import java.lang.reflect.Field;
import java.lang.reflect.Method;
import java.lang.reflect.Modifier;
import java.nio.file.Files;
import java.nio.file.Path;
import java.util.ArrayList;
import java.util.List;
import java.util.Set;
import java.util.TreeSet;
import java.util.regex.Matcher;
import java.util.regex.Pattern;

/** The rules of LANGUAGE.md that a program can look after: the face, the words, the sizes. */
public final class LanguageTest {
    private static final Check C = new Check("LanguageTest");
    private static final String SOURCE = "src/main/java/DawnTales.java";

    private static final Set<String> FACE = Set.of(
        "int type(int)", "int clear()", "int tales()", "int tale(int,int)", "int hours(int)",
        "int begins(int)", "int tells()", "int silent()", "int dawn()", "int undo()", "int now(int)",
        "int on()", "int by(int)", "int best(int)", "int fewest(int,int)", "int mind(int,int)", "int bars(int)",
        "int longer()", "int heard(int,int)", "int forget()", "int orders(int)", "int surely(int)",
        "long odds(int,int,int)", "int mark(int,int)", "int keep(int)", "int back(int)", "int count(int)", "long trace()");

    public static void main(String[] args) throws Exception {
        face();
        classes();
        String code = withoutComments(Files.readString(Path.of(SOURCE)));
        words(code);
        methodLengths(code);
        C.finish();
    }

    private static void due(String what, Object got, Object want) {
        C.due(what + " (" + got + " / " + want + ")", got.equals(want) ? 1 : 0, 1);
    }

    private static void face() {
        Set<String> found = new TreeSet<>();
        Set<String> publicNames = new TreeSet<>();
        for (Method m : DawnTales.class.getDeclaredMethods()) {
            if (Modifier.isPublic(m.getModifiers())) {
                List<String> of = new ArrayList<>();
                for (Class<?> p : m.getParameterTypes()) {
                    of.add(p.getName());
                }
                found.add(m.getReturnType() + " " + m.getName() + "(" + String.join(",", of) + ")");
                publicNames.add(m.getName());
            }
        }
        due("the methods of the face", found, new TreeSet<>(FACE));
        for (Method m : DawnTales.class.getDeclaredMethods()) {
            if (!Modifier.isPublic(m.getModifiers())) {
                C.due(m + " is private", Modifier.isPrivate(m.getModifiers()) ? 1 : 0, 1);
                C.due(m + " has its own name", publicNames.contains(m.getName()) ? 1 : 0, 0);
            }
        }
        Set<String> constants = new TreeSet<>();
        for (Field f : DawnTales.class.getDeclaredFields()) {
            if (Modifier.isPublic(f.getModifiers())) {
                constants.add(f.getType() + " " + f.getName());
            } else {
                C.due(f + " is private", Modifier.isPrivate(f.getModifiers()) ? 1 : 0, 1);
            }
        }
        due("the constants", constants, new TreeSet<>(Set.of("int BAD", "int STATE", "int FULL", "int NONE", "int NO")));
        C.due("one constructor", DawnTales.class.getDeclaredConstructors().length, 1);
        C.due("final", Modifier.isFinal(DawnTales.class.getModifiers()) ? 1 : 0, 1);
    }

    private static void classes() {
        List<Class<?>> all = new ArrayList<>(List.of(DawnTales.class.getDeclaredClasses()));
        for (Class<?> c : all) {
            int mods = c.getModifiers();
            C.due(c + " is static", Modifier.isStatic(mods) ? 1 : 0, 1);
            C.due(c + " is not public", Modifier.isPublic(mods) || Modifier.isProtected(mods) ? 1 : 0, 0);
            C.due(c + " has no class inside", c.getDeclaredClasses().length, 0);
        }
        all.add(DawnTales.class);
        C.due("some twelve classes", all.size() <= 12 ? 1 : 0, 1);
        for (Class<?> c : all) {
            int fields = 0;
            for (Field f : c.getDeclaredFields()) {
                boolean isStatic = Modifier.isStatic(f.getModifiers());
                C.due(f + " is final, if static", isStatic && !Modifier.isFinal(f.getModifiers()) ? 1 : 0, 0);
                fields += isStatic ? 0 : 1;
            }
            C.due("fields of " + c, fields <= 20 ? 1 : 0, 1);
            for (Method m : c.getDeclaredMethods()) {
                C.due("parameters of " + m, m.getParameterCount() <= 7 ? 1 : 0, 1);
            }
        }
    }

    private static String withoutComments(String source) {
        return Pattern.compile("/\\*.*?\\*/", Pattern.DOTALL).matcher(source).replaceAll("").replaceAll("//[^\n]*", "");
    }

    private static void words(String code) {
        String[] forbidden = {
            "\\bthrow", "\\btry\\b", "\\bcatch\\b", "\\bsynchronized\\b", "\\bassert\\b", "->", "::", "@", "\\bpackage\\b",
            "\\bException\\b", "\\bSystem\\.(?!arraycopy)", "\\bRandom\\b", "\\bThread\\b", "Exact\\(", "\\bequals\\(",
            "\\bhashCode\\b", "\\bObject\\b", "\\bstatic\\s*\\{", "\\bwhile\\s*\\(\\s*true", "\\bvar\\b"
        };
        for (String word : forbidden) {
            C.due("found " + word, Pattern.compile(word).matcher(code).find() ? 1 : 0, 0);
        }
        Matcher imports = Pattern.compile("import ([^;]+);").matcher(code);
        while (imports.find()) {
            C.due("import of " + imports.group(1), Set.of("java.util.Arrays", "java.util.ArrayList", "java.util.List",
                "java.util.Iterator").contains(imports.group(1)) ? 1 : 0, 1);
        }
        for (int i = 0; i < code.length(); i++) {
            if (code.charAt(i) > 126) {
                C.due("a sign above 126 at " + i, 1, 0);
            }
        }
    }

    /** A method's body lies between its head's brace and the first line that closes at the same depth. */
    private static void methodLengths(String code) {
        String[] lines = code.split("\n");
        Pattern head = Pattern.compile("^( +)[\\w\\[\\]<> ]+\\([^;]*\\) \\{$");
        int methods = 0;
        for (int i = 0; i < lines.length; i++) {
            Matcher m = head.matcher(lines[i]);
            if (m.matches() && !lines[i].trim().matches("(if|for|while|switch|else|do)\\b.*")) {
                int end = i;
                while (!lines[end].equals(m.group(1) + "}")) {
                    end++;
                }
                methods++;
                C.due("lines of" + lines[i], end - i + 1 <= 60 ? 1 : 0, 1);
            }
        }
        C.due("methods were found", methods > 60 ? 1 : 0, 1);
    }
}
