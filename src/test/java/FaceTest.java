import java.io.IOException;
import java.lang.reflect.Constructor;
import java.lang.reflect.Field;
import java.lang.reflect.Method;
import java.lang.reflect.Modifier;
import java.nio.charset.StandardCharsets;
import java.nio.file.Files;
import java.nio.file.Path;
import java.util.Arrays;
import java.util.Set;
import java.util.TreeSet;

/** The public face, and the rules of ../shared/LANGUAGE.md that a program can look after. Runs in the project's folder. */
public final class FaceTest {
    private static final String SOURCE = "src/main/java/Tabulator.java";
    private static final String INDEX = " throws IndexOutOfBoundsException";
    private static final String ARGUMENT = " throws IllegalArgumentException";
    private static final String STATE = " throws IllegalStateException";
    private static final String INDEX_ARGUMENT = " throws IndexOutOfBoundsException,IllegalArgumentException";
    private static final String INDEX_STATE = " throws IndexOutOfBoundsException,IllegalStateException";
    private static final String[] METHODS = {
        "int feed(int,int,int,int,int)", "int load(int)" + ARGUMENT, "int errorKind()", "int errorPosition()",
        "int cardCount()", "int column(int,int)" + INDEX, "long fieldValue(int,int)" + INDEX, "int breakLevel(int)" + INDEX,
        "int groupCount(int)" + ARGUMENT, "int groupOf(int,int)" + INDEX_ARGUMENT, "long groupSum(int,int,int)" + INDEX_ARGUMENT,
        "int greatestGroup(int,int)" + INDEX_ARGUMENT, "double mean(int)" + INDEX, "float movingAverage(int,float)" + INDEX_ARGUMENT,
        "int firstOutOfSequence(int)" + INDEX, "int earlierMatch(int,int)" + INDEX, "int sort(int)" + INDEX,
        "int removeCard(int)" + INDEX, "int copyCard(int)" + INDEX_STATE, "int setColumn(int,int,int)" + INDEX_ARGUMENT,
        "int plugCounter(int,int,int)" + INDEX_ARGUMENT, "int plugSelector(int,int,boolean)" + INDEX,
        "int plugControl(int,int)" + INDEX_ARGUMENT, "int restack()" + STATE, "void reset()",
        "int run(int) throws IllegalArgumentException,IllegalStateException", "int finish()" + STATE, "int processed()",
        "int counter(int)" + INDEX, "int overflows(int)" + INDEX, "boolean isSelected(int)" + INDEX, "int groups(int)" + ARGUMENT,
        "int lineCount()", "char lineCharacter(int,int)" + INDEX, "int lineLevel(int)" + INDEX, "int summaryCount()",
        "int summaryColumn(int,int)" + INDEX, "int linesOfRun()", "int neededWidth(int)" + INDEX, "int linesDependingOn(int)" + INDEX,
        "int crossfootErrors(int,int,int)" + INDEX, "void save(int)" + INDEX, "int restore(int)" + INDEX_STATE};

    private FaceTest() {
    }

    public static void main(String[] args) throws IOException {
        face();
        for (Class<?> inner : Tabulator.class.getDeclaredClasses()) {
            innerClass(inner);
        }
        source();
        Check.ends("FaceTest");
    }

    private static void face() {
        Set<String> due = new TreeSet<>();
        for (String method : METHODS) {
            due.add("public " + method);
        }
        due.add("public Tabulator()");
        due.add("public static final int NONE");
        due.add("public static final int FULL");
        due.add("public static final int BAD_TEXT");
        Set<String> got = new TreeSet<>();
        for (Method method : Tabulator.class.getDeclaredMethods()) {
            add(got, method.getModifiers(), method.toGenericString().replace("java.lang.", ""));
        }
        for (Constructor<?> constructor : Tabulator.class.getDeclaredConstructors()) {
            add(got, constructor.getModifiers(), constructor.toGenericString());
        }
        for (Field field : Tabulator.class.getDeclaredFields()) {
            add(got, field.getModifiers(), field.toGenericString());
        }
        Check.same("face", due, got);
        Check.same("modifiers", "public final", Modifier.toString(Tabulator.class.getModifiers()));
        Check.same("number of methods", 43, METHODS.length);
        fields(Tabulator.class);
    }

    private static void add(Set<String> members, int modifiers, String member) {
        if (!Modifier.isPrivate(modifiers)) {
            members.add(member.replace("Tabulator.", ""));
        }
    }

    private static void innerClass(Class<?> inner) {
        int modifiers = inner.getModifiers();
        Check.same(inner + " is static", true, Modifier.isStatic(modifiers));
        Check.same(inner + " is hidden", false, Modifier.isPublic(modifiers) || Modifier.isProtected(modifiers));
        for (Method method : inner.getDeclaredMethods()) {
            boolean named = Arrays.stream(METHODS).anyMatch(face -> face.contains(" " + method.getName() + "("));
            Check.same(inner + "." + method.getName() + " has a name of the face", false, named);
            Check.same(method + " has few parameters", true, method.getParameterCount() <= 7);
        }
        fields(inner);
    }

    private static void fields(Class<?> owner) {
        int count = 0;
        for (Field field : owner.getDeclaredFields()) {
            boolean isStatic = Modifier.isStatic(field.getModifiers());
            Check.same(field + " is final if it is static", true, !isStatic || Modifier.isFinal(field.getModifiers()));
            count += isStatic ? 0 : 1;
        }
        Check.same(owner + " has some twenty fields at most", true, count <= 20);
    }

    private static void source() throws IOException {
        String text = Files.readString(Path.of(SOURCE), StandardCharsets.UTF_8);
        Check.same("signs 1 to 127", true, text.chars().allMatch(sign -> sign > 0 && sign < 128));
        for (String word : new String[] {"->", "::", "package ", "synchronized", "assert ", "finally", "catch", "try ", "Exact(",
            "getMessage", ".hashCode(", ".toString(", "static {", "java.io", "java.time", "Random", "System.out", "Object "}) {
            Check.same("the source has " + word, false, text.contains(word));
        }
        for (String line : text.split("\n")) {
            boolean allowed = !line.startsWith("import ") || line.matches("import java\\.util\\.(Arrays|ArrayList|List|Iterator|NoSuchElementException);");
            Check.same(line, true, allowed);
        }
        Check.same("some twelve classes at most", true, text.split("(class|enum|interface|record) [A-Z]").length - 1 <= 12);
    }
}
