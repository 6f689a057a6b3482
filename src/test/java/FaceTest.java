import java.io.IOException;
import java.lang.reflect.Constructor;
import java.lang.reflect.Field;
import java.lang.reflect.Method;
import java.lang.reflect.Modifier;
import java.nio.file.Files;
import java.nio.file.Path;
import java.util.Set;
import java.util.TreeSet;
import java.util.regex.Matcher;
import java.util.regex.Pattern;

/** The public face of the document, and those rules of LANGUAGE.md that can be seen from outside. */
public final class FaceTest {
    private static final Set<String> FACE = Set.of(
        "int make(int)", "int move(int,int,int,int)", "int remove(int,int,boolean)", "int undo(int,int)",
        "int see(int,int)", "int meet(int,int)", "int cost(int)", "int object(int,int,int)",
        "int child(int,int,int)", "int row(int,int)", "int judged(int,int)", "boolean alike(int,int)",
        "int total(int)");
    private static final Pattern FORBIDDEN = Pattern.compile(
        "\\b(throw|throws|try|catch|synchronized|assert|package|Exact|System\\.(?!arraycopy)\\w+)\\b|->|::");

    /** Rule 4 of LANGUAGE.md: what may be called of classes that are not this file's own. */
    private static final Pattern LIBRARY = Pattern.compile(
        "System\\.arraycopy|Arrays\\.(copyOf|copyOfRange|fill)"
        + "|(Math|Integer|Long)\\.(compare|max|min|abs|bitCount|floorDiv|floorMod)");

    private static final Check check = new Check("FaceTest");

    private FaceTest() {
    }

    public static void main(String[] args) throws IOException {
        check.due("public final class", BinTrees.class.getModifiers(), Modifier.PUBLIC | Modifier.FINAL);
        methods();
        fieldsAndConstructors();
        classesInside();
        source();
        check.end();
    }

    private static void methods() {
        Set<String> open = new TreeSet<>();
        Set<String> names = new TreeSet<>();
        for (Method m : BinTrees.class.getDeclaredMethods()) {
            if (!Modifier.isPrivate(m.getModifiers())) {
                open.add(told(m));
                names.add(m.getName());
                check.due(m + " is public alone", m.getModifiers(), Modifier.PUBLIC);
            }
        }
        check.due("methods " + open, open.equals(FACE), true);
        for (Class<?> inside : BinTrees.class.getDeclaredClasses()) {
            for (Method m : inside.getDeclaredMethods()) {
                check.due(m + " has a name of its own", names.contains(m.getName()), false);
            }
        }
        for (Method m : BinTrees.class.getDeclaredMethods()) {
            boolean clash = Modifier.isPrivate(m.getModifiers()) && names.contains(m.getName());
            check.due(m + " has a name of its own", clash, false);
            check.due(m + " takes at most seven", m.getParameterCount() <= 7, true);
        }
    }

    private static String told(Method m) {
        StringBuilder text = new StringBuilder(m.getReturnType() + " " + m.getName() + "(");
        for (Class<?> type : m.getParameterTypes()) {
            text.append(text.charAt(text.length() - 1) == '(' ? "" : ",").append(type);
        }
        return text.append(")").toString();
    }

    private static void fieldsAndConstructors() {
        for (Field f : BinTrees.class.getDeclaredFields()) {
            boolean open = !Modifier.isPrivate(f.getModifiers());
            check.due(f + " is in the face", open, f.getName().equals("NONE"));
        }
        Constructor<?>[] made = BinTrees.class.getDeclaredConstructors();
        check.due("constructors", made.length, 1);
        check.due("the constructor is public", made[0].getModifiers(), Modifier.PUBLIC);
        check.due("the constructor takes nothing", made[0].getParameterCount(), 0);
    }

    private static void classesInside() {
        for (Class<?> inside : BinTrees.class.getDeclaredClasses()) {
            int modifiers = inside.getModifiers();
            check.due(inside + " is static", Modifier.isStatic(modifiers), true);
            check.due(inside + " is not open", Modifier.isPublic(modifiers) || Modifier.isProtected(modifiers), false);
            check.due(inside + " has few fields", inside.getDeclaredFields().length <= 20, true);
        }
    }

    private static void source() throws IOException {
        String text = Files.readString(Path.of("src/main/java/BinTrees.java"));
        String bare = text.replaceAll("(?s)/\\*.*?\\*/", "").replaceAll("//[^\n]*", "");
        words(bare);
        check.sentence("LANGUAGE.md, rule 4", "The library: only what stands here.");
        library(bare);
        check.sentence("LANGUAGE.md, rule 4", "Arrays.copyOf, Arrays.copyOfRange, Arrays.fill over arrays of numbers");
        arraysOfNumbers(bare);
    }

    private static void words(String bare) {
        Matcher found = FORBIDDEN.matcher(bare);
        while (found.find()) {
            check.due("in the source: " + found.group(), 1, 0);
        }
        Matcher imports = Pattern.compile("import ([^;]+);").matcher(bare);
        while (imports.find()) {
            check.due("import of " + imports.group(1), imports.group(1).matches("java\\.util\\.(Arrays|ArrayList|List)"), true);
        }
    }

    private static void library(String bare) {
        check.due("the source has a class", bare.contains("class BinTrees"), true);
        Matcher calls = Pattern.compile("\\b[A-Z]\\w*\\.\\w+(?=\\()").matcher(bare);
        while (calls.find()) {
            check.due(calls.group(), LIBRARY.matcher(calls.group()).matches(), true);
        }
    }

    /** A boolean is no number, nor is an object of an own class. */
    private static void arraysOfNumbers(String bare) {
        Set<String> others = new TreeSet<>();
        Matcher arrays = Pattern.compile("\\b(boolean|[A-Z]\\w*)\\[\\] (\\w+)").matcher(bare);
        while (arrays.find()) {
            others.add(arrays.group(2));
        }
        check.due("the array of people is seen", others.contains("people"), true);
        Matcher uses = Pattern.compile("\\bArrays\\.\\w+\\((?:\\w+\\.)*(\\w+)").matcher(bare);
        while (uses.find()) {
            check.due(uses.group() + " is over numbers", others.contains(uses.group(1)), false);
        }
    }
}
