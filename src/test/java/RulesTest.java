import java.lang.reflect.Constructor;
import java.lang.reflect.Field;
import java.lang.reflect.Method;
import java.lang.reflect.Modifier;
import java.nio.file.Files;
import java.nio.file.Path;
import java.util.ArrayList;
import java.util.Arrays;
import java.util.HashSet;
import java.util.List;
import java.util.Set;
import java.util.TreeSet;
import java.util.regex.Matcher;
import java.util.regex.Pattern;

/** What of LANGUAGE.md and of the document's face can be seen from the source and the class. */
public final class RulesTest {
    private static final String[] FORBIDDEN = {
        "throw", "throws", "try", "catch", "finally", "synchronized", "assert", "package", "volatile",
        "native", "Thread", "Random", "random", "nanoTime", "currentTimeMillis", "Object", "hashCode",
        "HashMap", "Map", "Set", "Exception", "var", "->", "::", "System.out", "equals", "toString"
    };

    private static final String[] FACE = {
        "int letters int int", "int clause int int int int int", "int more int int", "int drop int",
        "int ask int int boolean", "int fix int int", "int loose int int", "int weight int int int",
        "int count int int", "int compile int", "int root int", "int node int int int",
        "int part int int int", "int bend int int int int", "int judge int", "int guilty", "int rows int",
        "int says int int", "long sum int", "long chance int int boolean", "int sure int int",
        "int kth int int", "int rank int int", "int next int int", "int most int boolean",
        "long weigh int int", "int asked int", "int less boolean", "int join", "int lay int int",
        "int tear", "int row int", "int copy int int int", "int give int", "int status int"
    };

    private RulesTest() {
    }

    private static void words(String source) {
        String code = source.replaceAll("(?s)/\\*.*?\\*/", " ").replaceAll("//[^\n]*", " ");
        for (String word : FORBIDDEN) {
            boolean letters = Character.isLetter(word.charAt(0));
            String edge = letters ? "\\b" : "";
            Matcher found = Pattern.compile(edge + Pattern.quote(word) + edge).matcher(code);
            Due.holds("the code is without " + word, !found.find());
        }
        for (char c : source.toCharArray()) {
            if (c > 126 || c < 32 && c != '\n') {
                Due.holds("plain signs alone", false);
            }
        }
        Matcher library = Pattern.compile("\\b(Integer|Long|Math|System)\\.(\\w+)").matcher(code);
        Set<String> allowed = new HashSet<>(Arrays.asList("Integer.bitCount", "Long.bitCount", "Math.abs",
            "Math.min", "Math.max", "System.arraycopy"));
        while (library.find()) {
            Due.holds(library.group() + " is in the library", allowed.contains(library.group()));
        }
    }

    // A part is looked at before it is an index: partAt answers NONE where there is none.
    private static void partsAsIndexes(String source) {
        for (String unseen : new String[] {"[partAt(", "[parts["}) {
            Due.holds("no index " + unseen, !source.contains(unseen));
        }
    }

    // Only constructors and fields make objects: a run of calls makes none.
    private static void makings(String source) {
        for (String line : source.split("\n")) {
            if (line.contains(" new ")) {
                boolean field = line.matches("\\s+(private )?(static )?final .*= new .*;");
                boolean levels = line.trim().equals("levels[i] = new Level();");
                Due.holds("made in a constructor: " + line.trim(), field || levels);
            }
        }
    }

    private static void methodsAreShort(String source) {
        int start = 0;
        String[] lines = source.split("\n");
        for (int i = 0; i < lines.length; i++) {
            if (lines[i].matches("(    |        )\\w.*\\) \\{")) {
                start = i;
            }
            if (lines[i].matches("(    |        )\\}")) {
                Due.holds("at most 60 lines up to line " + (i + 1), start == 0 || i - start < 60);
                start = 0;
            }
        }
    }

    private static void face() {
        Class<?> of = TruthWalk.class;
        Due.holds("public and final", Modifier.isPublic(of.getModifiers()) && Modifier.isFinal(of.getModifiers()));
        Set<String> publics = new TreeSet<>();
        Set<String> publicNames = new HashSet<>();
        List<String> privateNames = new ArrayList<>();
        for (Method m : of.getDeclaredMethods()) {
            StringBuilder text = new StringBuilder(m.getReturnType() + " " + m.getName());
            for (Class<?> p : m.getParameterTypes()) {
                text.append(' ').append(p);
            }
            if (Modifier.isPublic(m.getModifiers())) {
                publics.add(text.toString());
                publicNames.add(m.getName());
            } else {
                Due.holds(m.getName() + " is private", Modifier.isPrivate(m.getModifiers()));
                privateNames.add(m.getName());
            }
        }
        Due.holds("the face: " + publics, publics.equals(new TreeSet<>(Arrays.asList(FACE))));
        for (String name : privateNames) {
            Due.holds(name + " is no public name", !publicNames.contains(name));
        }
        for (Constructor<?> c : of.getDeclaredConstructors()) {
            Due.holds("one constructor, public", Modifier.isPublic(c.getModifiers()) && c.getParameterCount() == 0);
        }
        int constants = 0;
        for (Field f : of.getDeclaredFields()) {
            if (Modifier.isStatic(f.getModifiers())) {
                Due.holds(f.getName() + " is final", Modifier.isFinal(f.getModifiers()));
            }
            if (Modifier.isPublic(f.getModifiers())) {
                constants++;
            } else {
                Due.holds(f.getName() + " is private", Modifier.isPrivate(f.getModifiers()));
            }
        }
        Due.is("public constants", constants, 9);
    }

    private static boolean isOfFace(String name) {
        for (String call : FACE) {
            if (call.split(" ")[1].equals(name)) {
                return true;
            }
        }
        return false;
    }

    private static void classesInside() {
        Class<?>[] inside = TruthWalk.class.getDeclaredClasses();
        Due.holds("at most twelve classes", inside.length <= 12);
        for (Class<?> c : inside) {
            Due.holds(c.getName() + " is static", Modifier.isStatic(c.getModifiers()));
            Due.holds(c.getName() + " is not public", !Modifier.isPublic(c.getModifiers()));
            Due.holds(c.getName() + " holds no class", c.getDeclaredClasses().length == 0);
            int fields = 0;
            for (Field f : c.getDeclaredFields()) {
                fields += Modifier.isStatic(f.getModifiers()) ? 0 : 1;
            }
            Due.holds(c.getName() + " has at most twenty fields", fields <= 20);
            for (Method m : c.getDeclaredMethods()) {
                Due.holds(m.getName() + " takes at most seven", m.getParameterCount() <= 7);
                Due.holds(c.getName() + "." + m.getName() + " is no public name",
                    !Modifier.isPrivate(m.getModifiers()) || !isOfFace(m.getName()));
            }
        }
    }

    public static void main(String[] args) throws Exception {
        String source = Files.readString(Path.of("src/main/java/TruthWalk.java"));
        Due.about("LANGUAGE.md");
        words(source);
        partsAsIndexes(source);
        makings(source);
        methodsAreShort(source);
        face();
        classesInside();
        Due.end("RulesTest");
    }
}
