import java.io.IOException;
import java.lang.reflect.Constructor;
import java.lang.reflect.Field;
import java.lang.reflect.Method;
import java.lang.reflect.Modifier;
import java.nio.charset.StandardCharsets;
import java.nio.file.Files;
import java.nio.file.Path;
import java.nio.file.Paths;
import java.util.Arrays;
import java.util.Set;
import java.util.TreeSet;
import java.util.regex.Pattern;

/** The public face as the document has it, and those rules of LANGUAGE.md that a look at the file can tell. */
public final class FaceTest {
    private static final Check check = new Check();
    private static final Path FILE = Paths.get("src/main/java/CelHouse.java");
    private static final String I = "IndexOutOfBoundsException", A = "IllegalArgumentException", S = "IllegalStateException";

    private static final String[] FACE = {
        "int key() " + S, "int between(int,int,int,int) " + I + " " + A + " " + S,
        "int stroke(int,int,int,int,int) " + I + " " + A + " " + S, "void pen(int,int) " + I,
        "boolean erase(int,int) " + I + " " + A + " " + S, "int paint(int,int) " + I + " " + S,
        "boolean gaps(int) " + I + " " + S, "int approve(int,boolean) " + I + " " + S,
        "int colour(int,int,int) " + I + " " + A, "int scene(int,int) " + I + " " + A + " " + S,
        "int expose(int,int,int,int) " + I + " " + A, "int voice(int,int,int) " + I, "int mouth(int,int) " + I,
        "boolean speaks(int,int) " + I, "int peg(int) " + I + " " + S,
        "int move(int,int,int,int) " + I + " " + A + " " + S, "void hang(int,int,int,int) " + I + " " + A,
        "int shoot(int) " + I, "int hand(int) " + A + " " + S, "int splice(int) " + I + " " + S, "int cut()",
        "int of(int,int) " + I + " " + A, "int point(int,int,int) " + I, "int has(int,int,int) " + I,
        "int moved(int,int,int,boolean) " + I, "int seen(int,int,int,int) " + I,
        "int seenAnew(int,int,int,int) " + I, "int shot(int,int,int,int) " + I, "int stale(int) " + I,
        "boolean hangs(int,int,int) " + I, "int faults(int,int) " + I, "int hours(int) " + I, "int film(int) " + I,
    };

    /** Words and signs that LANGUAGE.md leaves no place for, whatever stands around them. */
    private static final String[] NOT_ALLOWED = {"::", "\\bfinally\\b", "\\bsynchronized\\b", "\\bassert\\b",
        "\\w+Exact\\(", "^package\\b", "\\bObject\\b", "\\bSystem\\.(?!arraycopy)", "\\bhashCode\\b", "\\bNaN\\b",
        "\\b(goto|native|strictfp|transient|volatile)\\b", "(?m)^(?!\\s*(case|default)\\b).*->", "\\bvar\\b",
        "catch \\((ArrayIndexOutOfBounds|NullPointer|ClassCast|NegativeArraySize|ArrayStore)Exception\\b"};
    private static final String IMPORTS = "import java\\.util\\.(Arrays|ArrayList|List|Iterator|NoSuchElementException);";

    public static void main(String[] args) throws IOException {
        faceIsTheDocuments();
        faceIsWrittenAsInTheDocument();
        nothingElseIsVisible();
        fileKeepsToTheRules();
        check.end();
    }

    private static void faceIsTheDocuments() {
        Set<String> got = new TreeSet<>();
        for (Method method : CelHouse.class.getDeclaredMethods()) {
            if (!Modifier.isPrivate(method.getModifiers())) {
                got.add(told(method));
                check.due(method.getName() + " is public alone", method.getModifiers(), Modifier.PUBLIC);
            }
        }
        check.due("the methods", got.toString(), new TreeSet<>(Arrays.asList(FACE)).toString());
        check.due("the class", CelHouse.class.getModifiers(), Modifier.PUBLIC | Modifier.FINAL);
        Constructor<?>[] constructors = CelHouse.class.getDeclaredConstructors();
        check.due("constructors", constructors.length, 1);
        check.due("the constructor", constructors[0].getModifiers(), Modifier.PUBLIC);
        check.due("the constructor's arguments", constructors[0].getParameterCount(), 0);
    }

    /** The names of the arguments, and the constants with what they are, can be seen in the file alone. */
    private static void faceIsWrittenAsInTheDocument() throws IOException {
        String document = new String(Files.readAllBytes(Paths.get("../shared/DOC.md")), StandardCharsets.UTF_8);
        String code = new String(Files.readAllBytes(FILE), StandardCharsets.US_ASCII).replaceAll("\\s+", " ");
        int begin = document.indexOf("```java");
        int end = document.indexOf("```", begin + 1);
        check.due("the document has a face", begin >= 0 && end > begin, true);
        int count = 0;
        for (String line : document.substring(Math.max(0, begin), Math.max(0, end)).split("\n")) {
            String member = line.trim();
            if (member.startsWith("public ")) {
                String written = member.endsWith(");") || member.contains(" throws ") ? member.replace(";", " {") : member;
                check.due("the file has " + written, code.contains(written), true);
                count++;
            }
        }
        check.due("members of the face, and the class", count, FACE.length + 4);
    }

    private static void nothingElseIsVisible() {
        Set<String> fields = new TreeSet<>();
        for (Field field : CelHouse.class.getDeclaredFields()) {
            if (!Modifier.isPrivate(field.getModifiers())) {
                fields.add(field.getName());
            }
            boolean isStatic = Modifier.isStatic(field.getModifiers());
            check.due(field.getName() + " is final, if static", !isStatic || Modifier.isFinal(field.getModifiers()), true);
        }
        check.due("the constants", fields.toString(), "[CYCLE, HOLD, NONE]");
        Set<String> names = new TreeSet<>();
        for (Method method : CelHouse.class.getMethods()) {
            names.add(method.getName());
        }
        Class<?>[] inside = CelHouse.class.getDeclaredClasses();
        check.due("at most some twelve classes", inside.length < 14, true);
        for (Class<?> each : inside) {
            check.due(each + " is hidden", Modifier.isPublic(each.getModifiers()), false);
            noPrivateBearsOneOf(names, each);
        }
        noPrivateBearsOneOf(names, CelHouse.class);
    }

    private static void noPrivateBearsOneOf(Set<String> names, Class<?> owner) {
        for (Method method : owner.getDeclaredMethods()) {
            boolean isPrivate = Modifier.isPrivate(method.getModifiers());
            check.due(method + " bears a public name", isPrivate && names.contains(method.getName()), false);
        }
    }

    private static void fileKeepsToTheRules() throws IOException {
        byte[] bytes = Files.readAllBytes(FILE);
        for (byte each : bytes) {
            check.due("a sign of the file is 1 to 127", each > 0, true);
        }
        String code = withoutTexts(new String(bytes, StandardCharsets.US_ASCII));
        for (String each : NOT_ALLOWED) {
            check.due("the file has " + each, Pattern.compile(each).matcher(code).find(), false);
        }
        for (String line : code.split("\n")) {
            boolean isOther = line.startsWith("import ") && !line.matches(IMPORTS);
            check.due(line + " is of another class than it may be", isOther, false);
        }
    }

    private static String withoutTexts(String code) {
        return code.replaceAll("(?s)/\\*.*?\\*/", "").replaceAll("//[^\n]*", "").replaceAll("\"[^\"\n]*\"", "\"\"");
    }

    private static String told(Method method) {
        StringBuilder text = new StringBuilder();
        text.append(method.getReturnType().getName()).append(' ').append(method.getName()).append('(');
        for (int i = 0; i < method.getParameterCount(); i++) {
            text.append(i == 0 ? "" : ",").append(method.getParameterTypes()[i].getName());
        }
        text.append(')');
        for (Class<?> thrown : method.getExceptionTypes()) {
            text.append(' ').append(thrown.getSimpleName());
        }
        return text.toString();
    }
}
