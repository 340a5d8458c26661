import java.io.IOException;
import java.lang.reflect.Array;
import java.lang.reflect.Constructor;
import java.lang.reflect.Field;
import java.lang.reflect.Method;
import java.lang.reflect.Modifier;
import java.nio.file.Files;
import java.nio.file.Path;
import java.util.IdentityHashMap;
import java.util.Map;
import java.util.TreeSet;
import java.util.regex.Matcher;
import java.util.regex.Pattern;

/** The face of the class, those rules of LANGUAGE.md that can be seen without much reading, and the room. */
public final class LanguageTest {
    private static final String[] BARRED = {
        "\\b(throw|throws|try|catch|synchronized|assert|import|package|protected|instanceof)\\b",
        "->", "::", "\\w+Exact\\b", "\\bSystem\\.(?!arraycopy\\b)", "\\bnew Object\\b", "\\b(double|float)\\b",
        "@", "\\bequals\\s*\\(", "\\bhashCode\\b", "\\btoString\\b", "\\bThread\\b", "\\bstatic\\s*\\{",
        "while\\s*\\(true\\)", "for\\s*\\(;;\\)",
    };

    private static int wrong = 0;

    private static void claim(boolean holds, String what) {
        if (!holds) {
            wrong++;
            System.out.println("not so: " + what);
        }
    }

    /** The calls of the document, as name(IJZ). */
    private static TreeSet<String> documentFace() throws IOException {
        TreeSet<String> due = new TreeSet<>();
        String doc = Files.readString(Path.of("../shared/DOC.md"));
        Matcher m = Pattern.compile("(?m)^    public int (\\w+)\\((.*)\\);$").matcher(doc);
        while (m.find()) {
            due.add(m.group(1) + "(" + m.group(2).replaceAll("int \\w+", "I").replaceAll("long \\w+", "J")
                .replaceAll("boolean \\w+", "Z").replace(", ", "") + ")");
        }
        return due;
    }

    private static void face() throws IOException {
        TreeSet<String> due = documentFace();
        TreeSet<String> names = new TreeSet<>();
        for (String one : due) {
            names.add(one.substring(0, one.indexOf('(')));
        }
        claim(due.size() == 40, "the document has 40 calls");
        TreeSet<String> found = new TreeSet<>();
        for (Method m : RaftTown.class.getDeclaredMethods()) {
            if (Modifier.isPublic(m.getModifiers())) {
                StringBuilder b = new StringBuilder(m.getName()).append('(');
                for (Class<?> p : m.getParameterTypes()) {
                    b.append(p.descriptorString());
                }
                found.add(b.append(')').toString());
                claim(m.getReturnType() == int.class && !Modifier.isStatic(m.getModifiers()), m + " is as told");
            } else {
                claim(Modifier.isPrivate(m.getModifiers()), m + " is private");
                claim(!names.contains(m.getName()), m + " has a name of its own");
            }
        }
        claim(found.equals(due), "the public methods are those of the document: " + found);
        for (Field f : RaftTown.class.getDeclaredFields()) {
            claim(Modifier.isPrivate(f.getModifiers()), f + " is private");
            claim(!Modifier.isStatic(f.getModifiers()) || Modifier.isFinal(f.getModifiers()), f + " is final");
        }
        Constructor<?>[] makers = RaftTown.class.getDeclaredConstructors();
        claim(makers.length == 1 && Modifier.isPublic(makers[0].getModifiers())
            && makers[0].getParameterCount() == 0, "one public constructor without parameters");
        claim(Modifier.isFinal(RaftTown.class.getModifiers()), "the class is final");
        claim(RaftTown.class.getDeclaredClasses().length <= 12, "twelve classes inside at most");
        for (Class<?> c : RaftTown.class.getDeclaredClasses()) {
            claim(Modifier.isStatic(c.getModifiers()) && !Modifier.isPublic(c.getModifiers()), c + " is static, not public");
            claim(c.getDeclaredFields().length <= 20, c + " has twenty fields at most");
            for (Method m : c.getDeclaredMethods()) {
                claim(!names.contains(m.getName()), m + " has a name of its own");
                claim(m.getParameterCount() <= 7, m + " takes seven parameters at most");
            }
        }
    }

    private static void words() throws IOException {
        String source = Files.readString(Path.of("src/main/java/RaftTown.java"));
        for (int i = 0; i < source.length(); i++) {
            claim(source.charAt(i) < 128, "sign " + i + " is plain");
        }
        String bare = source.replaceAll("(?s)/\\*.*?\\*/", " ").replaceAll("//[^\n]*", " ")
            .replaceAll("\"[^\"\n]*\"", "\"\"");
        for (String barred : BARRED) {
            Matcher m = Pattern.compile(barred).matcher(bare);
            claim(!m.find(), "nothing like " + barred);
        }
    }

    private static void lengths() throws IOException {
        int begun = 0;
        int at = 0;
        String end = "not begun";
        for (String line : Files.readAllLines(Path.of("src/main/java/RaftTown.java"))) {
            at++;
            if (line.matches(" +((private|public|static) )*[a-z]\\w*(\\[\\])? \\w+\\(.*") && line.endsWith("{")
                    && !line.contains("return ")) {
                begun = at;
                end = line.replaceAll("\\S.*", "}");
            } else if (line.equals(end)) {
                claim(at - begun <= 60, "the method at line " + begun + " has sixty lines at most: " + (at - begun));
                end = "not begun";
            }
        }
        claim(begun > 0, "methods are found");
    }

    // ---- the room

    private static int objects = 0;
    private static int elements = 0;

    private static void weigh(Object one, Map<Object, Boolean> seen) throws IllegalAccessException {
        if (one == null || seen.put(one, true) != null) {
            return;
        }
        objects++;
        if (one.getClass().isArray()) {
            elements += Array.getLength(one);
            if (one instanceof Object[]) {
                for (Object inside : (Object[]) one) {
                    weigh(inside, seen);
                }
            }
            return;
        }
        for (Field f : one.getClass().getDeclaredFields()) {
            if (!Modifier.isStatic(f.getModifiers())) {
                elements++;
                f.setAccessible(true);
                if (!f.getType().isPrimitive()) {
                    weigh(f.get(one), seen);
                }
            }
        }
    }

    /** All objects of a run live in one room, so a town takes a small part of it, and no call takes more. */
    private static void room() throws IOException, IllegalAccessException {
        RaftTown x = new RaftTown();
        weigh(x, new IdentityHashMap<>());
        claim(objects <= 200, "a town has 200 objects at most: " + objects);
        claim(elements <= 4000, "a town has 4000 fields and elements at most: " + elements);
        String constructorEnd = "";
        for (String line : Files.readAllLines(Path.of("src/main/java/RaftTown.java"))) {
            if (line.matches(" +(public )?(RaftTown|Town)\\(\\) \\{")) {
                constructorEnd = line.replaceAll("\\S.*", "}");
            } else if (line.equals(constructorEnd)) {
                constructorEnd = "";
            }
            boolean makes = line.matches("[^/]*\\bnew [A-Za-z].*");
            boolean mayMake = !constructorEnd.isEmpty() || line.matches(" +private final \\S+ \\w+ = new .*");
            claim(!makes || mayMake, "nothing is made by a call: " + line.trim());
        }
    }

    public static void main(String[] args) throws IOException, IllegalAccessException {
        face();
        words();
        lengths();
        room();
        System.out.println(wrong == 0 ? "the class keeps to its face and its language" : wrong + " claims fail");
        if (wrong != 0) {
            System.exit(1);
        }
    }
}
