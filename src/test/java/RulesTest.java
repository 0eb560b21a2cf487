import java.io.IOException;
import java.lang.reflect.Constructor;
import java.lang.reflect.Field;
import java.lang.reflect.Method;
import java.lang.reflect.Modifier;
import java.nio.file.Files;
import java.nio.file.Path;
import java.util.ArrayList;
import java.util.Arrays;
import java.util.List;
import java.util.TreeSet;
import java.util.regex.Matcher;
import java.util.regex.Pattern;

/** The public face, and some of LANGUAGE.md's rules that a text or the compiled class shows. */
public final class RulesTest {
    private static final Path SOURCE = Path.of("src/main/java/ChainLeap.java");
    private static final Path DOCUMENT = Path.of("../shared/DOC.md");

    public static void main(String[] args) throws IOException {
        theFaceIsTheDocuments();
        nothingElseIsSeen();
        noPrivateMethodBearsAPublicName();
        theSourceHasNoForbiddenWords();
        methodsStayShort();
        Due.end();
    }

    private static TreeSet<String> faceOfTheDocument() throws IOException {
        Matcher face = Pattern.compile("    public (int|long) (\\w+)\\((.*?)\\)( throws .*?)?;").matcher(Files.readString(DOCUMENT));
        TreeSet<String> calls = new TreeSet<>();
        while (face.find()) {
            int many = face.group(3).isEmpty() ? 0 : face.group(3).split(",").length;
            calls.add(face.group(1) + " " + face.group(2) + " " + many);
        }
        return calls;
    }

    private static void theFaceIsTheDocuments() throws IOException {
        TreeSet<String> calls = new TreeSet<>();
        for (Method method : ChainLeap.class.getDeclaredMethods()) {
            if (Modifier.isPublic(method.getModifiers())) {
                calls.add(method.getReturnType() + " " + method.getName() + " " + method.getParameterCount());
                Due.same(method + " takes ints", Arrays.stream(method.getParameterTypes()).allMatch(t -> t == int.class) ? 1 : 0, 1);
            }
        }
        Due.same("the document's calls", faceOfTheDocument().size(), 32);
        Due.same("the face is the document's: " + calls, calls.equals(faceOfTheDocument()) ? 1 : 0, 1);
        Due.same("the class is public and final", ChainLeap.class.getModifiers() & 0xff, Modifier.PUBLIC | Modifier.FINAL);
    }

    private static void nothingElseIsSeen() {
        Constructor<?>[] constructors = ChainLeap.class.getDeclaredConstructors();
        Due.same("one constructor", constructors.length, 1);
        Due.same("without arguments", constructors[0].getParameterCount(), 0);
        for (Field field : ChainLeap.class.getDeclaredFields()) {
            Due.same(field + " is private", Modifier.isPrivate(field.getModifiers()) ? 1 : 0, 1);
            boolean isFreeOrFinal = !Modifier.isStatic(field.getModifiers()) || Modifier.isFinal(field.getModifiers());
            Due.same(field + " is no static state", isFreeOrFinal ? 1 : 0, 1);
        }
        for (Method method : ChainLeap.class.getDeclaredMethods()) {
            int seen = method.getModifiers() & (Modifier.PUBLIC | Modifier.PRIVATE);
            Due.same(method + " is public or private", seen != 0 ? 1 : 0, 1);
        }
        Due.same("some twelve classes", ChainLeap.class.getDeclaredClasses().length <= 12 ? 1 : 0, 1);
        for (Class<?> inside : ChainLeap.class.getDeclaredClasses()) {
            Due.same(inside + " is static", Modifier.isStatic(inside.getModifiers()) ? 1 : 0, 1);
            Due.same(inside + " is not public", Modifier.isPublic(inside.getModifiers()) ? 1 : 0, 0);
        }
    }

    private static void noPrivateMethodBearsAPublicName() {
        TreeSet<String> names = new TreeSet<>();
        List<Method> others = new ArrayList<>();
        for (Method method : ChainLeap.class.getDeclaredMethods()) {
            if (Modifier.isPublic(method.getModifiers())) {
                names.add(method.getName());
            } else {
                others.add(method);
            }
        }
        for (Class<?> inside : ChainLeap.class.getDeclaredClasses()) {
            others.addAll(Arrays.asList(inside.getDeclaredMethods()));
        }
        for (Method method : others) {
            Due.same(method + " has a name of its own", names.contains(method.getName()) ? 1 : 0, 0);
        }
    }

    private static String bareSource() throws IOException {
        String source = Files.readString(SOURCE);
        source = source.replaceAll("(?s)/\\*.*?\\*/", "").replaceAll("//.*", "");
        return source.replaceAll("\"[^\"]*\"", "TEXT").replaceAll("'.'", "SIGN");
    }

    private static void theSourceHasNoForbiddenWords() throws IOException {
        String source = bareSource();
        String[] words = {
            "package ", "import ", "\\bfinally\\b", "\\bsynchronized\\b", "\\bassert\\b", "->", "::", "\\bgetMessage\\b",
            "\\bNullPointerException\\b", "\\bArrayIndexOutOfBoundsException\\b", "\\bClassCastException\\b", "\\bRuntimeException\\b",
            "catch \\(ArithmeticException", "catch \\(IndexOutOfBoundsException", "\\bThrowable\\b", "catch \\(Exception", "\\bError\\b",
            "Exact\\(", "\\b(Integer|Long|Math)\\.[A-Z]",
            "\\bstatic \\{", "\\bhashCode\\b", "\\bequals\\b", "\\btoString\\b", "TEXT \\+", "\\+ TEXT", "\\bprotected\\b"};
        for (String word : words) {
            Due.same("the source has " + word, Pattern.compile(word).matcher(source).find() ? 1 : 0, 0);
        }
        Due.same("signs are 1 to 127", Files.readString(SOURCE).chars().allMatch(c -> c > 0 && c < 128) ? 1 : 0, 1);
    }

    private static void methodsStayShort() throws IOException {
        List<String> lines = Files.readAllLines(SOURCE);
        Pattern head = Pattern.compile("( {4}| {8})[a-z][\\w\\[\\] ]*\\([^)]*\\)[\\w, ]* \\{");
        for (int i = 0; i < lines.size(); i++) {
            Matcher begins = head.matcher(lines.get(i));
            if (begins.matches()) {
                int size = lines.subList(i, lines.size()).indexOf(begins.group(1) + "}");
                Due.same("short: " + lines.get(i), size > 0 && size <= 60 ? 1 : 0, 1);
            }
        }
    }
}
