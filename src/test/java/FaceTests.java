import java.io.IOException;
import java.lang.reflect.Constructor;
import java.lang.reflect.Field;
import java.lang.reflect.Method;
import java.lang.reflect.Modifier;
import java.nio.file.Files;
import java.nio.file.Path;
import java.util.ArrayList;
import java.util.Arrays;
import java.util.List;
import java.util.Set;
import java.util.TreeSet;
import java.util.regex.Matcher;
import java.util.regex.Pattern;

/** The document's face, and those rules of LANGUAGE.md that a look from outside can tell. */
public final class FaceTests {
    private static final Path SOURCE = Path.of("src/main/java/BranchingTalks.java");
    private static int wrong = 0;

    private static void require(boolean holds, String what) {
        if (!holds) {
            wrong++;
            System.out.println("not so: " + what);
        }
    }

    private static String signature(Method m) {
        StringBuilder s = new StringBuilder(m.getReturnType() + " " + m.getName());
        for (Class<?> p : m.getParameterTypes()) s.append(' ').append(p);
        return s.toString();
    }

    private static void theMethods() {
        Set<String> due = new TreeSet<>(List.of("int write int", "int talk", "int fault", "int begin int", "int take int",
                "int back int", "int cut int int", "int cost int int", "int undo", "int answer int int", "int count int",
                "int step int", "int line int int", "int least int int", "int row int int", "int needs int",
                "int must int int", "int loop int", "int use int", "int mark int int", "int whole int",
                "long rows int int"));
        Set<String> there = new TreeSet<>(), names = new TreeSet<>();
        for (Method m : BranchingTalks.class.getDeclaredMethods()) {
            if (Modifier.isPublic(m.getModifiers())) {
                there.add(signature(m));
                names.add(m.getName());
                require(!Modifier.isStatic(m.getModifiers()), m + " is not static");
            } else {
                require(Modifier.isPrivate(m.getModifiers()), m + " is private");
            }
        }
        require(there.equals(due), "the public methods are " + due + ", there are " + there);
        noOtherMethodBears(names, BranchingTalks.class);
        for (Class<?> c : BranchingTalks.class.getDeclaredClasses()) noOtherMethodBears(names, c);
    }

    private static void noOtherMethodBears(Set<String> names, Class<?> c) {
        for (Method m : c.getDeclaredMethods()) {
            require(Modifier.isPublic(m.getModifiers()) || !names.contains(m.getName()), m + " bears a name of its own");
            require(m.getParameterCount() <= 7, m + " has at most seven parameters");
        }
    }

    private static void theFields() throws IllegalAccessException {
        List<String> constants = List.of("NONE", "UNKNOWN", "OUTSIDE", "NOT", "FULL");
        int[] values = {-1, -1000001, -1000002, -1000003, -1000004};
        int found = 0;
        for (Field f : BranchingTalks.class.getDeclaredFields()) {
            if (!Modifier.isPublic(f.getModifiers())) {
                require(Modifier.isPrivate(f.getModifiers()), f + " is private");
                continue;
            }
            int at = constants.indexOf(f.getName());
            require(at >= 0 && f.getType() == int.class && Modifier.isStatic(f.getModifiers())
                    && Modifier.isFinal(f.getModifiers()) && f.getInt(null) == values[at], f + " is the document's");
            found++;
        }
        require(found == constants.size(), "all constants are there");
    }

    private static void theClass() {
        int kind = BranchingTalks.class.getModifiers();
        require(Modifier.isPublic(kind) && Modifier.isFinal(kind), "the class is public and final");
        Constructor<?>[] makers = BranchingTalks.class.getDeclaredConstructors();
        require(makers.length == 1 && Modifier.isPublic(makers[0].getModifiers())
                && makers[0].getParameterCount() == 0, "there is one constructor, public, without parameters");
        Class<?>[] inside = BranchingTalks.class.getDeclaredClasses();
        require(inside.length <= 11, "there are at most some twelve classes");
        for (Class<?> c : inside) {
            require(Modifier.isStatic(c.getModifiers()), c + " is static");
            require(!Modifier.isPublic(c.getModifiers()) && !Modifier.isProtected(c.getModifiers()), c + " is not public");
            long fields = Arrays.stream(c.getDeclaredFields()).filter(f -> !Modifier.isStatic(f.getModifiers())).count();
            require(fields <= 20, c + " has at most twenty fields");
        }
        for (Class<?> c : inside) staticsAreFinal(c);
        staticsAreFinal(BranchingTalks.class);
    }

    private static void staticsAreFinal(Class<?> c) {
        for (Field f : c.getDeclaredFields()) {
            int kind = f.getModifiers();
            require(!Modifier.isStatic(kind) || Modifier.isFinal(kind), f + " is final");
        }
    }

    /** The room is kept by making all rows once: what is new stands in a field or in the constructor. */
    private static void theSource() throws IOException {
        Pattern banned = Pattern.compile("\\b(throw|throws|try|catch|synchronized|assert|equals|hashCode|toString|"
                + "package|Object|System\\.out|\\w+Exact)\\b|->|::|Arrays\\.\\w+\\(.*\\b(true|false)\\)");
        Pattern making = Pattern.compile("( {8}(private )?(final )?(int|long|boolean)\\[\\] \\w+|  +\\w+) = new .*;");
        for (String line : Files.readAllLines(SOURCE)) {
            String code = line.trim().startsWith("*") || line.trim().startsWith("/") ? "" : line;
            require(!banned.matcher(code).find(), "outside LANGUAGE.md: " + line);
            require(!code.contains("new ") || making.matcher(code).matches(), "made by a call: " + line);
            require(!code.startsWith("import") || code.equals("import java.util.Arrays;"), "imported: " + line);
        }
    }

    /** Of the library only what rule 4 has; its constants are not there, nor functions over other things than numbers. */
    private static void theLibrary() throws IOException {
        Set<String> free = Set.of("Arrays.fill", "System.arraycopy", "Integer.bitCount", "Math.max", "Math.min");
        Pattern used = Pattern.compile("\\b(Arrays|System|Integer|Long|Math|String|Character|Boolean)\\.(\\w+)");
        for (String line : Files.readAllLines(SOURCE)) {
            String code = line.trim().startsWith("*") || line.trim().startsWith("/") ? "" : line.replaceAll("^import .*", "");
            Matcher m = used.matcher(code);
            while (m.find()) require(free.contains(m.group()), m.group() + " is not in rule 4: " + line);
        }
    }

    /** Each method of the source, from its head to its last brace; those of classes inside stand deeper. */
    private static List<String> methods() throws IOException {
        Pattern method = Pattern.compile("(?m)^( {4}| {8})[^\\s/*].*\\(.*\\) \\{$(?s:.*?)^\\1\\}$");
        List<String> found = new ArrayList<>();
        Matcher m = method.matcher(Files.readString(SOURCE));
        while (m.find()) found.add(m.group());
        return found;
    }

    /** Rule 11 on lengths; rule 7 where a row grows: how long it is must be looked at in the same method. */
    private static void theBodies() throws IOException {
        List<String> methods = methods();
        require(methods.size() > 100, "the methods are found, there are " + methods.size());
        Pattern growing = Pattern.compile("\\w+\\[(\\w+)\\] = [^;]*;(?s:.*?)\\b\\1\\+\\+;");
        for (String body : methods) {
            String head = body.substring(0, body.indexOf('\n')).trim();
            require(body.lines().count() <= 60, head + " has at most sixty lines");
            Matcher m = growing.matcher(body);
            while (m.find()) {
                boolean lookedAt = Pattern.compile("\\b" + m.group(1) + " (<|>=) [A-Z]+\\b").matcher(body).find();
                require(lookedAt, head + " looks at " + m.group(1) + " before it is an index");
            }
        }
    }

    public static void main(String[] args) throws Exception {
        theClass();
        theMethods();
        theFields();
        theSource();
        theLibrary();
        theBodies();
        System.out.println(wrong == 0 ? "the face is as the document has it" : wrong + " things are not as told");
        if (wrong != 0) System.exit(1);
    }
}
