import java.io.IOException;
import java.lang.reflect.Constructor;
import java.lang.reflect.Field;
import java.lang.reflect.Method;
import java.lang.reflect.Modifier;
import java.nio.file.Files;
import java.nio.file.Path;
import java.util.ArrayList;
import java.util.Arrays;
import java.util.List;
import java.util.TreeSet;
import java.util.regex.Matcher;
import java.util.regex.Pattern;

/** The face as the document has it (LANGUAGE.md, rule 1), and what of the other rules can be seen in the source. */
public final class FaceTest {
    private static final Check CHECK = new Check("FaceTest");
    private static final String SOURCE = "src/main/java/HoldsOnceDenied.java";
    private static final int LONGEST_METHOD = 60;

    private static final String[] FACE = {"int school(int)", "int sentence(int,int)", "int denier(int,int)",
        "int comes(int)", "int learns(int,int)", "int deny(int,int)", "int die(int)", "int may(int)",
        "int silences(int)", "int steps(int,int)", "int falls(int)", "int lonely()", "int ever()",
        "int soonest(int)", "int first(int)", "int easiest(int)", "int all()", "int atOnce(int)",
        "int hire(int,int)", "int canHave(int)", "int run(int,int)", "int seeded(int,int)", "int judge(int)",
        "int image()", "int restore()", "int count(int)", "int keep(int,int,int,int)", "int row(int,int,int)",
        "int put(int,int,int)", "long element(int,int)", "int copy(int,int,int,int,int)", "int price(int)",
        "int toss(int)"};

    private static final String[] RULED_OUT = {"->", "::", "@", "\\bfinally\\b", "\\bsynchronized\\b",
        "\\bassert\\b", "\\bvar\\b", "\\bhashCode\\b", "\\btoString\\b", "\\bstatic \\{", "\\bObject\\b",
        "\\bString\\.format\\b", "Exact\\(", "\\bgetMessage\\b", "NullPointerException", "ArithmeticException",
        "ClassCastException", "NegativeArraySizeException", "ArrayStoreException", "IndexOutOfBounds",
        "\\bRuntimeException\\b", "\\bException\\b", "\\bThrowable\\b"};

    public static void main(String[] args) throws IOException {
        theClass();
        theMethods();
        theRest();
        theSource();
        CHECK.finish();
    }

    private static void theClass() {
        int modifiers = HoldsOnceDenied.class.getModifiers();
        CHECK.holds("public", Modifier.isPublic(modifiers));
        CHECK.holds("final", Modifier.isFinal(modifiers));
        Constructor<?>[] all = HoldsOnceDenied.class.getDeclaredConstructors();
        CHECK.due("constructors", all.length, 1);
        CHECK.holds("public constructor", Modifier.isPublic(all[0].getModifiers()) && all[0].getParameterCount() == 0);
    }

    private static void theMethods() {
        TreeSet<String> found = new TreeSet<>();
        TreeSet<String> names = new TreeSet<>();
        for (Method m : HoldsOnceDenied.class.getDeclaredMethods()) {
            if (Modifier.isPrivate(m.getModifiers())) {
                continue;
            }
            CHECK.holds(m + " is public", Modifier.isPublic(m.getModifiers()) && !Modifier.isStatic(m.getModifiers()));
            StringBuilder head = new StringBuilder(m.getReturnType() + " " + m.getName() + "(");
            for (Class<?> type : m.getParameterTypes()) {
                head.append(head.charAt(head.length() - 1) == '(' ? "" : ",").append(type);
            }
            found.add(head.append(")").toString());
            names.add(m.getName());
            CHECK.due(m + " tells its exceptions", m.getExceptionTypes().length, m.getName().equals("element") ? 2 : 0);
        }
        CHECK.holds("the face is " + found, found.equals(new TreeSet<>(Arrays.asList(FACE))));
        noPrivateMethodIsNamedSo(HoldsOnceDenied.class, names);
        for (Class<?> inside : HoldsOnceDenied.class.getDeclaredClasses()) {
            noPrivateMethodIsNamedSo(inside, names);
        }
    }

    private static void noPrivateMethodIsNamedSo(Class<?> type, TreeSet<String> names) {
        for (Method m : type.getDeclaredMethods()) {
            CHECK.holds(m + " has a name of its own", Modifier.isPublic(m.getModifiers()) || !names.contains(m.getName()));
        }
    }

    private static void theRest() {
        for (Field f : HoldsOnceDenied.class.getDeclaredFields()) {
            CHECK.holds(f + " is private", Modifier.isPrivate(f.getModifiers()));
            CHECK.holds(f + " is final if static", !Modifier.isStatic(f.getModifiers()) || Modifier.isFinal(f.getModifiers()));
        }
        Class<?>[] inside = HoldsOnceDenied.class.getDeclaredClasses();
        CHECK.holds("some twelve classes", inside.length + 1 <= 12);
        for (Class<?> type : inside) {
            CHECK.holds(type + " is static and not public", Modifier.isStatic(type.getModifiers())
                && !Modifier.isPublic(type.getModifiers()) && !Modifier.isProtected(type.getModifiers()));
        }
    }

    private static void theSource() throws IOException {
        String text = Files.readString(Path.of(SOURCE));
        for (int i = 0; i < text.length(); i++) {
            CHECK.holds("sign " + (int) text.charAt(i), text.charAt(i) < 128);
        }
        String code = text.replaceAll("/\\*(?s:.*?)\\*/", "").replaceAll("//.*", "").replaceAll("\"[^\"]*\"", "\"\"");
        for (String out : RULED_OUT) {
            Matcher found = Pattern.compile(out).matcher(code);
            CHECK.holds(out + " is ruled out", !found.find());
        }
        List<String> imports = new ArrayList<>();
        for (String line : code.split("\n")) {
            if (line.startsWith("import")) {
                imports.add(line.trim());
            }
        }
        CHECK.holds("imports are " + imports, imports.equals(List.of("import java.util.Arrays;")));
        methodsAreShort(code.split("\n"));
    }

    /** A method begins where a line ends with ") {" or with a throws list, at a depth of four or eight blanks. */
    private static void methodsAreShort(String[] lines) {
        for (int i = 0; i < lines.length; i++) {
            Matcher head = Pattern.compile("^( {4}| {8})[a-zA-Z].*\\).* \\{$").matcher(lines[i]);
            if (!head.matches() || lines[i].trim().matches("(for|if|while|switch|else|do|try).*")) {
                continue;
            }
            int end = i;
            while (end < lines.length && !lines[end].equals(head.group(1) + "}")) {
                end++;
            }
            CHECK.holds(lines[i].trim() + " is short", end - i < LONGEST_METHOD);
        }
    }
}
