import java.io.IOException;
import java.lang.reflect.Constructor;
import java.lang.reflect.Field;
import java.lang.reflect.Member;
import java.lang.reflect.Method;
import java.lang.reflect.Modifier;
import java.nio.file.Files;
import java.nio.file.Path;
import java.util.ArrayList;
import java.util.List;
import java.util.Set;
import java.util.TreeSet;
import java.util.regex.Matcher;
import java.util.regex.Pattern;

/** The public face, read from the document itself, and the rules of LANGUAGE.md that can be read from the file. */
public final class FaceTest {
    private static final Path SOURCE = Path.of("src/main/java/TownRepeated.java");
    private static final Path DOCUMENT = Path.of("../shared/DOC.md");
    private static final Class<?> FACE = TownRepeated.class;

    public static void main(String[] args) throws IOException {
        String document = Files.readString(DOCUMENT);
        Check.due("public and final", FACE.getModifiers() & (Modifier.PUBLIC | Modifier.FINAL), Modifier.PUBLIC | Modifier.FINAL);
        same("methods", methodsOf(document), methods());
        same("constants", Set.of("BAD=-1", "FULL=-2", "FINDING=-3", "STATE=-4", "SPENT=-6", "NONE=-9"), constants());
        membersArePrivate();
        String code = withoutComments(Files.readString(SOURCE));
        noWords(code);
        shortMethods(code);
        noHiddenEnds(code);
        Check.end();
    }

    private static void same(String what, Set<String> want, Set<String> got) {
        Set<String> odd = new TreeSet<>(want);
        odd.removeAll(got);
        Set<String> more = new TreeSet<>(got);
        more.removeAll(want);
        Check.due(what + " missing " + odd, odd.size(), 0);
        Check.due(what + " too many " + more, more.size(), 0);
        Check.due(what + " are some", want.isEmpty() ? 1 : 0, 0);
    }

    private static Set<String> methodsOf(String document) {
        Set<String> all = new TreeSet<>();
        Matcher m = Pattern.compile("public (int|long) (\\w+)\\(([^)]*)\\);").matcher(document);
        while (m.find()) {
            int ints = m.group(3).isBlank() ? 0 : m.group(3).split(",").length;
            all.add(m.group(1) + " " + m.group(2) + "/" + ints);
        }
        return all;
    }

    private static Set<String> methods() {
        Set<String> all = new TreeSet<>();
        for (Method m : FACE.getDeclaredMethods()) {
            if (!Modifier.isPublic(m.getModifiers())) {
                continue;
            }
            for (Class<?> type : m.getParameterTypes()) {
                Check.due(m + " takes ints", type == int.class ? 1 : 0, 1);
            }
            Check.due(m + " is no static one", Modifier.isStatic(m.getModifiers()) ? 1 : 0, 0);
            all.add(m.getReturnType() + " " + m.getName() + "/" + m.getParameterCount());
        }
        return all;
    }

    private static Set<String> constants() {
        Set<String> all = new TreeSet<>();
        for (Field f : FACE.getFields()) {
            try {
                all.add(f.getName() + "=" + f.getInt(null));
            } catch (IllegalAccessException e) {
                all.add(f.getName() + "=?");
            }
        }
        return all;
    }

    private static void membersArePrivate() {
        List<Member> all = new ArrayList<>();
        all.addAll(List.of(FACE.getDeclaredMethods()));
        all.addAll(List.of(FACE.getDeclaredFields()));
        Set<String> open = new TreeSet<>();
        for (Member m : all) {
            boolean shown = Modifier.isPublic(m.getModifiers()) || Modifier.isPrivate(m.getModifiers());
            Check.due(m + " is public or private", shown || m.isSynthetic() ? 1 : 0, 1);
            if (m instanceof Method && Modifier.isPublic(m.getModifiers())) {
                open.add(m.getName());
            }
        }
        Constructor<?>[] made = FACE.getDeclaredConstructors();
        Check.due("one constructor", made.length, 1);
        Check.due("a public one", Modifier.isPublic(made[0].getModifiers()) ? 1 : 0, 1);
        Check.due("without arguments", made[0].getParameterCount(), 0);
        Check.due("some twelve classes", FACE.getDeclaredClasses().length < 12 ? 1 : 0, 1);
        for (Class<?> inside : FACE.getDeclaredClasses()) {
            Check.due(inside + " is static", Modifier.isStatic(inside.getModifiers()) ? 1 : 0, 1);
            for (Method m : inside.getDeclaredMethods()) {
                Check.due(m + " bears a name of the face", open.contains(m.getName()) ? 1 : 0, 0);
                Check.due(m + " has at most seven", m.getParameterCount() <= 7 ? 1 : 0, 1);
            }
        }
        for (Method m : FACE.getDeclaredMethods()) {
            if (Modifier.isPrivate(m.getModifiers())) {
                Check.due(m + " bears a name of the face", open.contains(m.getName()) ? 1 : 0, 0);
            }
        }
    }

    private static String withoutComments(String code) {
        return code.replaceAll("(?s)/\\*.*?\\*/", "").replaceAll("//[^\\n]*", "");
    }

    private static void noWords(String code) {
        String[] words = {"throw", "throws", "try", "catch", "finally", "synchronized", "assert", "import", "package",
            "protected", "Random", "Thread", "Exception", "equals", "hashCode", "toString", "double", "float"};
        for (String word : words) {
            Check.due("the word " + word, Pattern.compile("\\b" + word + "\\b").matcher(code).find() ? 1 : 0, 0);
        }
        Check.due("a lambda", code.contains("->") ? 1 : 0, 0);
        Check.due("a method reference", code.contains("::") ? 1 : 0, 0);
        Check.due("a text", code.contains("\"") ? 1 : 0, 0);
        Matcher m = Pattern.compile("\\b(System|Math|Integer|Long|Arrays)\\.(\\w+)").matcher(code);
        Set<String> allowed = Set.of("System.arraycopy", "Math.max", "Math.min", "Math.floorMod", "Integer.bitCount");
        while (m.find()) {
            Check.due(m.group() + " is of the library told", allowed.contains(m.group()) ? 1 : 0, 1);
        }
        m = Pattern.compile("\\bnew\\b").matcher(code);
        int made = 0;
        while (m.find()) {
            made++;
        }
        // All that is made is made by the constructors; a call makes nothing.
        Matcher fields = Pattern.compile("(?m)^\\s*(private final .*= new .*;|\\w+ = new .*;|kept\\[k\\] = new Chain\\(\\);)$").matcher(code);
        int inFields = 0;
        while (fields.find()) {
            inFields++;
        }
        Check.due("what is made, but by constructors", made - inFields, 0);
    }

    private static void shortMethods(String code) {
        String[] lines = code.split("\n");
        int start = -1;
        String indent = "";
        for (int i = 0; i < lines.length; i++) {
            Matcher m = Pattern.compile("^( {4}| {8})\\w.*\\(.*\\) \\{$").matcher(lines[i]);
            if (m.find()) {
                start = i;
                indent = m.group(1);
            } else if (start >= 0 && lines[i].equals(indent + "}")) {
                Check.due("lines of " + lines[start].trim(), i - start < 60 ? 1 : 0, 1);
                start = -1;
            }
        }
    }

    private static void noHiddenEnds(String code) {
        String[] hidden = {"while (true)", "for (;;)", "static {"};
        for (String h : hidden) {
            Check.due(h, code.contains(h) ? 1 : 0, 0);
        }
        for (char c : code.toCharArray()) {
            if (c > 127) {
                Check.due("a sign above 127", c, 0);
            }
        }
    }
}
