import java.lang.reflect.Constructor;
import java.lang.reflect.Field;
import java.lang.reflect.Method;
import java.lang.reflect.Modifier;
import java.nio.file.Files;
import java.nio.file.Path;
import java.util.Arrays;
import java.util.HashSet;
import java.util.List;
import java.util.Set;
import java.util.TreeSet;
import java.util.regex.Matcher;
import java.util.regex.Pattern;

/** The class shows the document's face and no more, and its source keeps to the rules that can be read off it. */
public final class FaceTest {
    private static final String[] METHODS = {
        "write 1", "wipe 0", "fault 0", "lay 0", "rate 2", "breath 1", "sound 3", "hush 1", "version 3", "place 3",
        "off 1", "why 3", "gain 3", "value 0", "adopt 0", "picture 2", "told 3", "tick 1", "silence 2", "best 0",
        "bestOf 2", "bestBy 1", "bestIf 2", "bestBreath 1", "greedy 0", "greedyOf 2", "count 1"};
    private static final String[] FIELDS = {"BAD", "NO", "FULL", "NONE", "ZERO"};
    private static final String[] LIBRARY = {"Arrays.fill", "System.arraycopy", "Math.max", "Math.min", "Integer.bitCount"};
    private static int wrong = 0;

    public static void main(String[] args) throws Exception {
        face();
        nested();
        words();
        System.out.println(wrong == 0 ? "FaceTest: all as due" : "FaceTest: " + wrong + " wrong");
        if (wrong != 0) System.exit(1);
    }

    private static void must(boolean good, String what) {
        if (!good) {
            wrong++;
            System.out.println("not so: " + what);
        }
    }

    private static void face() {
        Class<?> c = GapTellings.class;
        must(Modifier.isPublic(c.getModifiers()) && Modifier.isFinal(c.getModifiers()), "public and final");
        Constructor<?>[] makers = c.getDeclaredConstructors();
        must(makers.length == 1 && Modifier.isPublic(makers[0].getModifiers()) && makers[0].getParameterCount() == 0,
            "one public constructor");
        Set<String> methods = new TreeSet<>();
        for (Method m : c.getDeclaredMethods()) {
            if (Modifier.isPrivate(m.getModifiers())) continue;
            must(Modifier.isPublic(m.getModifiers()) && m.getReturnType() == int.class, "public int " + m.getName());
            for (Class<?> type : m.getParameterTypes()) must(type == int.class, "int arguments of " + m.getName());
            methods.add(m.getName() + " " + m.getParameterCount());
        }
        must(methods.equals(new TreeSet<>(List.of(METHODS))), "the methods of the face: " + methods);
        Set<String> fields = new TreeSet<>();
        for (Field f : c.getDeclaredFields()) {
            if (Modifier.isPrivate(f.getModifiers())) continue;
            must(Modifier.isStatic(f.getModifiers()) && Modifier.isFinal(f.getModifiers()), "constant " + f.getName());
            fields.add(f.getName());
        }
        must(fields.equals(new TreeSet<>(List.of(FIELDS))), "the constants of the face: " + fields);
    }

    private static void nested() {
        Set<String> publicNames = new HashSet<>();
        for (String m : METHODS) publicNames.add(m.split(" ")[0]);
        Class<?>[] classes = GapTellings.class.getDeclaredClasses();
        must(classes.length < 12, "at most some twelve classes");
        fieldsOf(GapTellings.class);
        for (Class<?> c : classes) {
            must(Modifier.isStatic(c.getModifiers()) && !Modifier.isPublic(c.getModifiers()), "static: " + c.getName());
            fieldsOf(c);
            for (Method m : c.getDeclaredMethods()) {
                must(!publicNames.contains(m.getName()), "another name than the face's: " + m.getName());
                must(m.getParameterCount() <= 7, "at most seven parameters: " + m.getName());
            }
        }
        for (Method m : GapTellings.class.getDeclaredMethods()) {
            must(Modifier.isPublic(m.getModifiers()) || !publicNames.contains(m.getName()), "private name " + m.getName());
        }
    }

    private static void fieldsOf(Class<?> c) {
        long own = Arrays.stream(c.getDeclaredFields()).filter(f -> !Modifier.isStatic(f.getModifiers())).count();
        must(own <= 20, "at most some twenty fields: " + c.getName());
        for (Field f : c.getDeclaredFields()) {
            must(!Modifier.isStatic(f.getModifiers()) || Modifier.isFinal(f.getModifiers()), "final: " + f.getName());
        }
    }

    private static void words() throws Exception {
        String source = Files.readString(Path.of("src/main/java/GapTellings.java"));
        String code = source.replaceAll("(?s)/\\*.*?\\*/", " ").replaceAll("//[^\n]*", " ")
            .replaceAll("\"[^\"\n]*\"", "\"\"").replaceAll("'[^'\n]'", "' '");
        must(source.chars().allMatch(c -> c == '\n' || c >= 32 && c < 127), "plain signs alone");
        for (String word : "throw throws try catch finally synchronized assert native volatile package".split(" ")) {
            must(!Pattern.compile("\\b" + word + "\\b").matcher(code).find(), "without the word " + word);
        }
        must(!code.contains("->") && !code.contains("::"), "without lambdas and method references");
        Matcher imports = Pattern.compile("import ([^;]*);").matcher(code);
        while (imports.find()) must(imports.group(1).equals("java.util.Arrays"), "import " + imports.group(1));
        Matcher calls = Pattern.compile("\\b(Arrays|System|Math|Integer|Long)\\.\\w+").matcher(code.replaceAll("import[^;]*;", ""));
        while (calls.find()) must(List.of(LIBRARY).contains(calls.group()), "of the library: " + calls.group());
        methodLengths(code);
    }

    /** A method of a class inside begins eight blanks in, one of the face four. */
    private static void methodLengths(String code) {
        String[] lines = code.split("\n");
        for (String blanks : List.of("    ", "        ")) {
            int begin = -1;
            for (int i = 0; i < lines.length; i++) {
                boolean opens = lines[i].startsWith(blanks) && lines[i].length() > blanks.length()
                    && lines[i].charAt(blanks.length()) != ' ' && lines[i].endsWith(") {");
                if (opens) begin = i;
                if (lines[i].equals(blanks + "}") && begin >= 0) {
                    must(i - begin < 60, "at most some sixty lines: " + lines[begin].trim());
                    begin = -1;
                }
            }
        }
    }
}
