import java.io.IOException;
import java.lang.reflect.Field;
import java.lang.reflect.Method;
import java.lang.reflect.Modifier;
import java.nio.file.Files;
import java.nio.file.Path;
import java.util.List;
import java.util.Set;
import java.util.TreeSet;
import java.util.regex.Matcher;
import java.util.regex.Pattern;

/** The document's face, and what of LANGUAGE.md can be seen from outside and from the source's words. */
public final class FaceTest {
    private static final String FACE = """
        int official(int,int,int)
        int of(int,int)
        int base(int,int,int)
        int votes(int,int)
        int away(int,boolean)
        int put(int)
        int egg(int)
        int row(int,int,int)
        int feed(int)
        int treaty()
        int told(int)
        int against(int,int,int)
        int pass(int)
        int on(int,int)
        int agenda(int,int)
        int bribe(int)
        long odds(int,int)
        long power(int,int)
        long pivot(int,int)
        long mean(int,int)
        int see(int,int,int,boolean)
        int can(int,int)
        int bases(int,int,int)
        int plan(int,int)
        int ends(int)
        int book(int,int,int)
        int looked()
        int judge(int,int)
        int image()
        int undo()
        int act(int,int,int)
        int trace(int)
        int taken(int,int)
        int count(int)
        int tape(int,int,int)
        int item(int,int,long)
        long read(int,int)
        int shift(int,int,int,int,int)
        """;
    private static final Pattern FORBIDDEN = Pattern.compile(
        "\\b(throws?|try|catch|finally|synchronized|assert|import|package|volatile|native|var|System\\.(?!arraycopy))\\b"
            + "|->|::|Exact\\b|\"\\s*\\+|\\+\\s*\"");

    public static void main(String[] args) throws IOException {
        face();
        constants();
        members(GooseVotes.class);
        for (Class<?> inside : GooseVotes.class.getDeclaredClasses()) {
            insideClass(inside);
        }
        Check.due("classes in the file, at most 12", 1, GooseVotes.class.getDeclaredClasses().length < 12 ? 1 : 0);
        source(Path.of("src/main/java/GooseVotes.java"));
        Check.end("FaceTest");
    }

    private static void yes(String what, boolean is) {
        Check.due(what, 1, is ? 1 : 0);
    }

    private static void face() {
        yes("public and final", GooseVotes.class.getModifiers() == (Modifier.PUBLIC | Modifier.FINAL));
        yes("one public constructor", GooseVotes.class.getDeclaredConstructors().length == 1
            && GooseVotes.class.getConstructors().length == 1);
        Set<String> want = new TreeSet<>(List.of(FACE.strip().split("\n")));
        Set<String> got = new TreeSet<>();
        for (Method method : GooseVotes.class.getDeclaredMethods()) {
            if (!Modifier.isPrivate(method.getModifiers())) {
                String[] parts = method.toString().split("GooseVotes\\.");
                yes(method + " is public", method.getModifiers() == Modifier.PUBLIC);
                got.add(method.getReturnType() + " " + parts[1]);
            }
        }
        yes("the face is " + want + ", found " + got, want.equals(got));
    }

    private static void constants() {
        Check.due("NONE", -1, GooseVotes.NONE);
        Check.due("BAD", -2, GooseVotes.BAD);
        Check.due("STATE", -3, GooseVotes.STATE);
        Check.due("FULL", -4, GooseVotes.FULL);
        Check.due("NO", Long.MIN_VALUE, GooseVotes.NO);
        Check.due("public fields", 5, GooseVotes.class.getFields().length);
    }

    private static void members(Class<?> of) {
        int own = 0;
        for (Field field : of.getDeclaredFields()) {
            int is = field.getModifiers();
            if (Modifier.isStatic(is)) {
                yes(field + " is final", Modifier.isFinal(is));
            } else {
                own++;
            }
            yes(field + " is private or of the face", of != GooseVotes.class || (is & Modifier.PRIVATE) != 0
                || (is & Modifier.PUBLIC) != 0);
        }
        yes(of + " has some twenty fields at most", own <= 20);
        for (Method method : of.getDeclaredMethods()) {
            yes(method + " has seven parameters at most", method.getParameterCount() <= 7);
            boolean ofFace = of == GooseVotes.class && Modifier.isPublic(method.getModifiers());
            yes(method + " has no name of the face", ofFace || !FACE.contains(" " + method.getName() + "("));
        }
    }

    private static void insideClass(Class<?> inside) {
        int is = inside.getModifiers();
        yes(inside + " is static and not public", Modifier.isStatic(is) && (is & (Modifier.PUBLIC | Modifier.PROTECTED)) == 0);
        members(inside);
    }

    private static void source(Path path) throws IOException {
        int began = 0;
        List<String> lines = Files.readAllLines(path);
        for (int i = 0; i < lines.size(); i++) {
            String line = lines.get(i);
            String code = line.strip().startsWith("*") || line.strip().startsWith("/**") ? "" : line;
            Matcher matcher = FORBIDDEN.matcher(code);
            yes("line " + (i + 1) + " keeps to the language: " + line.strip(), !matcher.find());
            boolean begins = code.endsWith("{") && (code.matches(" {4}\\w.*\\).*") || code.matches(" {8}\\w.*\\).*"));
            began = begins ? i : began;
            boolean ends = line.equals("    }") || line.equals("        }");
            yes("the method up to line " + (i + 1) + " is short", !ends || i - began <= 60);
        }
    }
}
