import java.io.IOException;
import java.lang.reflect.Constructor;
import java.lang.reflect.Field;
import java.lang.reflect.Method;
import java.lang.reflect.Modifier;
import java.nio.file.Files;
import java.nio.file.Path;
import java.util.TreeSet;
import java.util.regex.Matcher;
import java.util.regex.Pattern;

/** The face of the class, and those rules of LANGUAGE.md that can be seen without much reading. */
public final class LanguageTest {
    private static final String FACE =
        "stream(III) raft(IIII) as(II) raftIs(II) load(IIZ) trade(IIIZ) person(IIII) wed(II) move(II) personIs(II) "
        + "tie(IIIII) cut(I) rope(II) bears(II) parts() part(I) worst(II) day(II) days(II) lasts(I) feed(IJ) text(I) "
        + "force(II) law(I) may(II) must(II) speaks(I) events(I) event(II) lash(II) storm(IZ) proves(III) patch(II) "
        + "tow(II) sheet(III) put(III) copy(IIIII) image() restore() count(I)";

    private static final String[] BARRED = {
        "\\b(throw|throws|try|catch|synchronized|assert|import|package|protected|instanceof)\\b",
        "->", "::", "\\w+Exact\\b", "\\bSystem\\.(?!arraycopy\\b)", "\\bnew Object\\b", "\\b(double|float)\\b",
        "@", "\\bequals\\s*\\(", "\\bhashCode\\b", "\\btoString\\b", "\\bThread\\b", "\\bstatic\\s*\\{",
        "while\\s*\\(true\\)", "for\\s*\\(;;\\)",
    };

    private static int wrong = 0;

    private static void claim(boolean holds, String what) {
        if (!holds) {
            wrong++;
            System.out.println("not so: " + what);
        }
    }

    private static void face() {
        TreeSet<String> due = new TreeSet<>();
        TreeSet<String> names = new TreeSet<>();
        for (String one : FACE.split(" ")) {
            due.add(one);
            names.add(one.substring(0, one.indexOf('(')));
        }
        TreeSet<String> found = new TreeSet<>();
        for (Method m : RaftTown.class.getDeclaredMethods()) {
            if (Modifier.isPublic(m.getModifiers())) {
                StringBuilder b = new StringBuilder(m.getName()).append('(');
                for (Class<?> p : m.getParameterTypes()) {
                    b.append(p.descriptorString());
                }
                found.add(b.append(')').toString());
                claim(m.getReturnType() == int.class && !Modifier.isStatic(m.getModifiers()), m + " is as told");
            } else {
                claim(Modifier.isPrivate(m.getModifiers()), m + " is private");
                claim(!names.contains(m.getName()), m + " has a name of its own");
            }
        }
        claim(found.equals(due), "the public methods are those of the document: " + found);
        for (Field f : RaftTown.class.getDeclaredFields()) {
            claim(Modifier.isPrivate(f.getModifiers()), f + " is private");
            claim(!Modifier.isStatic(f.getModifiers()) || Modifier.isFinal(f.getModifiers()), f + " is final");
        }
        Constructor<?>[] makers = RaftTown.class.getDeclaredConstructors();
        claim(makers.length == 1 && Modifier.isPublic(makers[0].getModifiers())
            && makers[0].getParameterCount() == 0, "one public constructor without parameters");
        claim(Modifier.isFinal(RaftTown.class.getModifiers()), "the class is final");
        claim(RaftTown.class.getDeclaredClasses().length <= 12, "twelve classes inside at most");
        for (Class<?> c : RaftTown.class.getDeclaredClasses()) {
            claim(Modifier.isStatic(c.getModifiers()) && !Modifier.isPublic(c.getModifiers()), c + " is static, not public");
            claim(c.getDeclaredFields().length <= 20, c + " has twenty fields at most");
            for (Method m : c.getDeclaredMethods()) {
                claim(!names.contains(m.getName()), m + " has a name of its own");
                claim(m.getParameterCount() <= 7, m + " takes seven parameters at most");
            }
        }
    }

    private static void words() throws IOException {
        String source = Files.readString(Path.of("src/main/java/RaftTown.java"));
        for (int i = 0; i < source.length(); i++) {
            claim(source.charAt(i) < 128, "sign " + i + " is plain");
        }
        String bare = source.replaceAll("(?s)/\\*.*?\\*/", " ").replaceAll("//[^\n]*", " ")
            .replaceAll("\"[^\"\n]*\"", "\"\"");
        for (String barred : BARRED) {
            Matcher m = Pattern.compile(barred).matcher(bare);
            claim(!m.find(), "nothing like " + barred);
        }
    }

    public static void main(String[] args) throws IOException {
        face();
        words();
        System.out.println(wrong == 0 ? "the class keeps to its face and its language" : wrong + " claims fail");
        if (wrong != 0) {
            System.exit(1);
        }
    }
}
