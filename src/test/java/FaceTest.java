import java.io.IOException;
import java.lang.reflect.Constructor;
import java.lang.reflect.Field;
import java.lang.reflect.Method;
import java.lang.reflect.Modifier;
import java.nio.file.Files;
import java.nio.file.Path;
import java.util.Set;
import java.util.TreeSet;
import java.util.regex.Matcher;
import java.util.regex.Pattern;

/** The public face, and the rules of LANGUAGE.md that a plain look at the class and its text can tell. */
final class FaceTest {
    private static final Due DUE = new Due("FaceTest");
    private static final Set<String> FACE = Set.of(
            "put(int,int,long)", "at(int)", "pack(int,int,int)", "tables(int,int)", "look(int,int,int)",
            "parse(int,int,int,boolean)", "begin(int,int)", "key(int)", "timed(int,int)", "tick(int)",
            "script(int)", "play()", "told(int)", "typed(int)", "kept(int,int)", "echo(int)");

    public static void main(String[] args) throws IOException {
        constants();
        members();
        fields(ZInput.class);
        for (Class<?> inside : ZInput.class.getDeclaredClasses()) {
            DUE.run(inside.getName());
            DUE.is("static", Modifier.isStatic(inside.getModifiers()) ? 1 : 0, 1);
            fields(inside);
            privateNames(inside);
        }
        text();
        DUE.end();
    }

    private static void constants() {
        DUE.run("the constants");
        DUE.is("NO", ZInput.NO, -1);
        DUE.is("BAD", ZInput.BAD, -2);
        DUE.is("OUTSIDE", ZInput.OUTSIDE, -3);
    }

    private static void members() {
        DUE.run("the members");
        DUE.is("public final", ZInput.class.getModifiers(), Modifier.PUBLIC | Modifier.FINAL);
        Set<String> seen = new TreeSet<>();
        for (Method method : ZInput.class.getDeclaredMethods()) {
            if (Modifier.isPublic(method.getModifiers())) {
                StringBuilder name = new StringBuilder(method.getName()).append('(');
                for (Class<?> type : method.getParameterTypes()) {
                    name.append(name.charAt(name.length() - 1) == '(' ? "" : ",").append(type.getName());
                }
                seen.add(name.append(')').toString());
                DUE.is("an int is answered by " + method.getName(), method.getReturnType() == int.class ? 1 : 0, 1);
            } else {
                DUE.is("private " + method.getName(), Modifier.isPrivate(method.getModifiers()) ? 1 : 0, 1);
            }
        }
        DUE.is("the face " + seen, seen.equals(FACE) ? 1 : 0, 1);
        privateNames(ZInput.class);
        Constructor<?>[] made = ZInput.class.getDeclaredConstructors();
        DUE.is("constructors", made.length, 1);
        DUE.is("public constructor", made[0].getModifiers(), Modifier.PUBLIC);
        for (Field field : ZInput.class.getDeclaredFields()) {
            boolean constant = Set.of("NO", "BAD", "OUTSIDE").contains(field.getName());
            boolean asDue = constant ? Modifier.isPublic(field.getModifiers()) : Modifier.isPrivate(field.getModifiers());
            DUE.is("field " + field.getName(), asDue ? 1 : 0, 1);
        }
    }

    private static void privateNames(Class<?> type) {
        for (Method method : type.getDeclaredMethods()) {
            for (String face : FACE) {
                boolean same = face.startsWith(method.getName() + "(");
                boolean allowed = type == ZInput.class && Modifier.isPublic(method.getModifiers());
                DUE.is(type.getName() + "." + method.getName(), same && !allowed ? 1 : 0, 0);
            }
            DUE.is("parameters of " + method.getName(), Math.max(7, method.getParameterCount()), 7);
        }
    }

    private static void fields(Class<?> type) {
        int own = 0;
        for (Field field : type.getDeclaredFields()) {
            if (Modifier.isStatic(field.getModifiers())) {
                DUE.is("final " + field.getName(), Modifier.isFinal(field.getModifiers()) ? 1 : 0, 1);
            } else {
                own++;
            }
        }
        DUE.is("fields, 20 at most", Math.max(20, own), 20);
    }

    private static void text() throws IOException {
        DUE.run("the text");
        String source = Files.readString(Path.of("src/main/java/ZInput.java"));
        String bare = source.replaceAll("(?s)/\\*.*?\\*/", "").replaceAll("//[^\n]*", "")
                .replaceAll("\"(\\\\.|[^\"\\\\])*\"", "\"\"");
        String banned = "\\b(throw|throws|try|catch|synchronized|assert|import|package|equals|hashCode|toString|Exact)\\b"
                + "|->|::|\\bSystem\\.(?!arraycopy)";
        Matcher found = Pattern.compile(banned).matcher(bare);
        while (found.find()) {
            DUE.is("'" + found.group() + "' stands in the class", 1, 0);
        }
    }
}
