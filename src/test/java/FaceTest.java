import java.io.IOException;
import java.lang.reflect.Field;
import java.lang.reflect.Method;
import java.lang.reflect.Modifier;
import java.nio.file.Files;
import java.nio.file.Path;
import java.util.ArrayList;
import java.util.Arrays;
import java.util.List;
import java.util.TreeSet;
import java.util.regex.Matcher;
import java.util.regex.Pattern;

/** The public face of the document, and what of LANGUAGE.md can be read off the program's text. */
public final class FaceTest {
    private static final String[] FACE = {
        "int wearer(int, int, int)", "int of(int, int)", "int saying(int, int)", "int phrase(int, int)",
        "int aim(int, int)", "int mend(int, int)", "int row(int, int, int)", "int feed(int)", "int city()",
        "int told(int)", "int pass(int)", "int on(int, int)", "int best(int, int)", "int see(int, int, int)",
        "int ache(int, int, boolean)", "int can(int, int)", "long odds(int, int, int, int)",
        "long mean(int, int)", "int plan(int, int)", "int ends(int)", "int book(int, int)", "int looked()",
        "int judge(int, int)", "int image()", "int undo()", "int act(int, int, int)", "int trace(int)",
        "int taken(int, int)", "int count(int)", "int tape(int, int, int)", "int item(int, int, long)",
        "long read(int, int)", "int shift(int, int, int, int, int)"};
    /** The document's own line, though the language has no constants of Long. */
    private static final String NO_LINE = "public static final long NO = Long.MIN_VALUE;";
    private static final Path PROGRAM = Path.of("src/main/java/BowlerDents.java");
    private static final String[] FORBIDDEN = {"throw", "throws", "try", "catch", "finally", "synchronized",
        "assert", "import", "package", "->", "::", "strictfp", "native", "volatile", "transient", "var", "record"};

    private static final List<String> LIBRARY =
        List.of("System.arraycopy", "Math.max", "Math.min");

    private final List<String> faults = new ArrayList<>();

    public static void main(String[] args) throws IOException {
        FaceTest test = new FaceTest();
        test.methods();
        test.constants();
        test.inside();
        test.text();
        test.faults.forEach(System.out::println);
        System.out.println(test.faults.size() + " faults");
        if (!test.faults.isEmpty()) {
            System.exit(1);
        }
    }

    private void isSo(boolean holds, String otherwise) {
        if (!holds) {
            faults.add(otherwise);
        }
    }

    private void methods() {
        TreeSet<String> want = new TreeSet<>(Arrays.asList(FACE));
        TreeSet<String> got = new TreeSet<>();
        for (Method m : BowlerDents.class.getDeclaredMethods()) {
            if (!Modifier.isPrivate(m.getModifiers())) {
                List<String> types = new ArrayList<>();
                for (Class<?> type : m.getParameterTypes()) {
                    types.add(type.getName());
                }
                got.add(m.getReturnType() + " " + m.getName() + "(" + String.join(", ", types) + ")");
                isSo(Modifier.isPublic(m.getModifiers()), m + " is neither public nor private");
                isSo(!Modifier.isStatic(m.getModifiers()), m + " is static");
            }
        }
        isSo(got.equals(want), "the methods are " + got + ", not " + want);
        int constructors = BowlerDents.class.getDeclaredConstructors().length;
        isSo(constructors == 1 && BowlerDents.class.getConstructors().length == 1, "one public constructor");
        isSo(Modifier.isFinal(BowlerDents.class.getModifiers()), "the class is final");
    }

    private void constants() {
        TreeSet<String> got = new TreeSet<>();
        for (Field f : BowlerDents.class.getDeclaredFields()) {
            if (!Modifier.isPrivate(f.getModifiers())) {
                got.add(Modifier.toString(f.getModifiers()) + " " + f.getType() + " " + f.getName());
            }
            boolean isState = Modifier.isStatic(f.getModifiers()) && !Modifier.isFinal(f.getModifiers());
            isSo(!isState, f + " is state of the class");
        }
        String before = "public static final ";
        TreeSet<String> want = new TreeSet<>(Arrays.asList(before + "int NONE", before + "int BAD",
            before + "int STATE", before + "int FULL", before + "long NO"));
        isSo(got.equals(want), "the constants are " + got);
        isSo(BowlerDents.NONE == -1 && BowlerDents.BAD == -2, "NONE and BAD");
        isSo(BowlerDents.STATE == -3 && BowlerDents.FULL == -4, "STATE and FULL");
        isSo(BowlerDents.NO == Long.MIN_VALUE, "NO");
    }

    private void inside() {
        TreeSet<String> face = new TreeSet<>();
        for (String call : FACE) {
            face.add(call.substring(call.indexOf(' ') + 1, call.indexOf('(')));
        }
        for (Method m : BowlerDents.class.getDeclaredMethods()) {
            isSo(!Modifier.isPrivate(m.getModifiers()) || !face.contains(m.getName()), m + " bears a public name");
        }
        isSo(fieldsOf(BowlerDents.class) <= 20, "too many fields");
        Class<?>[] classes = BowlerDents.class.getDeclaredClasses();
        isSo(classes.length < 12, "too many classes");
        for (Class<?> c : classes) {
            isSo(Modifier.isStatic(c.getModifiers()), c + " is not static");
            isSo(!Modifier.isPublic(c.getModifiers()), c + " is public");
            isSo(fieldsOf(c) <= 20, c + " has too many fields");
            for (Method m : c.getDeclaredMethods()) {
                isSo(!face.contains(m.getName()), m + " bears a public name");
                isSo(m.getParameterCount() <= 7, m + " takes too many parameters");
            }
        }
    }

    private static long fieldsOf(Class<?> c) {
        return Arrays.stream(c.getDeclaredFields()).filter(f -> !Modifier.isStatic(f.getModifiers())).count();
    }

    private void text() throws IOException {
        String text = Files.readString(PROGRAM);
        isSo(text.chars().allMatch(c -> c < 128), "a sign beyond 127");
        String code = text.replaceAll("(?s)/\\*.*?\\*/", "").replaceAll("//[^\n]*", "");
        code = code.replaceAll("\"[^\"\n]*\"", "\"\"").replaceAll("'[^'\n]*'", "' '");
        for (String word : FORBIDDEN) {
            String around = Character.isLetter(word.charAt(0)) ? "\\b" : "";
            isSo(!Pattern.compile(around + word + around).matcher(code).find(), "'" + word + "' stands in it");
        }
        isSo(!code.contains("\"\" +") && !code.contains("+ \"\""), "texts are joined by +");
        isSo(code.contains(NO_LINE), "the line of NO is not the document's");
        Matcher library =
            Pattern.compile("\\b(System|Math|Integer|Long|Arrays)\\.(\\w+)").matcher(code.replace(NO_LINE, ""));
        while (library.find()) {
            isSo(LIBRARY.contains(library.group()), library.group() + " is not of the library that the language has");
        }
        everyMethod(code);
    }

    /** Methods stay short; and the room is one for all calls of a run: rows are made with the object alone. */
    private void everyMethod(String code) {
        String header = "";
        String indent = "";
        int length = 0;
        int methods = 0;
        for (String line : code.split("\n")) {
            Matcher opens = Pattern.compile("((?:    ){1,2})(?!for |if |while |switch |do )[a-zA-Z].*\\) \\{").matcher(line);
            if (header.isEmpty() && opens.matches()) {
                header = line.trim();
                indent = opens.group(1);
                length = 0;
                methods++;
            }
            length++;
            boolean isConstructor = header.matches("(public )?[A-Z][a-zA-Z]*\\(.*");
            boolean isMaking = line.contains(" new ") && !header.isEmpty() && !isConstructor;
            isSo(!isMaking, header + " makes an object: " + line.trim());
            if (!header.isEmpty() && line.equals(indent + "}")) {
                isSo(length <= 60, header + " has " + length + " lines");
                header = "";
            }
        }
        isSo(methods >= FACE.length, "only " + methods + " methods were looked at");
    }
}
