import java.io.IOException;
import java.lang.reflect.Field;
import java.lang.reflect.Method;
import java.lang.reflect.Modifier;
import java.nio.file.Files;
import java.nio.file.Path;
import java.util.Arrays;
import java.util.Set;
import java.util.TreeSet;
import java.util.regex.Matcher;
import java.util.regex.Pattern;

/** The face is the document's, no more; and of LANGUAGE.md what a look at the text can tell. */
public final class FaceTests {
    private static final String[] FACE = {
        "int run(int,int) IndexOutOfBoundsException IllegalArgumentException IllegalStateException",
        "int setPommels(int,int) IndexOutOfBoundsException IllegalArgumentException",
        "int setFlake(int,int) IndexOutOfBoundsException IllegalArgumentException",
        "int cannon(int) IndexOutOfBoundsException IllegalStateException",
        "int blast(int) IndexOutOfBoundsException IllegalStateException",
        "int skier(int,int) IllegalArgumentException IllegalStateException",
        "int wax(int,int) IndexOutOfBoundsException IllegalArgumentException IllegalStateException",
        "int join(int,int) IndexOutOfBoundsException",
        "boolean leave(int) IndexOutOfBoundsException",
        "int about(int,int) IndexOutOfBoundsException",
        "int told(int,int) IndexOutOfBoundsException",
        "int tow(int,int) IndexOutOfBoundsException",
        "int stands(int,int) IndexOutOfBoundsException",
        "int choice(int,int) IndexOutOfBoundsException",
        "int count(int) IndexOutOfBoundsException",
        "int pass(int) IllegalArgumentException",
        "int until(int) IndexOutOfBoundsException",
        "int foresee(int,int) IllegalArgumentException IndexOutOfBoundsException",
        "int advise(int,int) IndexOutOfBoundsException IllegalArgumentException",
        "double mean()",
        "long digest()",
    };

    private static final String[] NOT_IN_THE_PROGRAM = {
        "\\bcatch\\b", "\\bfinally\\b", "\\bsynchronized\\b", "\\bassert\\b", "->", "::", "\\bimport\\b",
        "\\bpackage\\b", "\\bstatic\\s*\\{", "\\bvar\\b", "\\bhashCode\\b", "\\btoString\\b", "\\bequals\\b",
        "Exact\\b", "\\bThread\\b", "System\\.(?!arraycopy)", "\\bRandom\\b", "\\binstanceof\\b",
        "Math\\.(?!abs|max|min|floorMod|floorDiv)", "[^\\x00-\\x7f]",
    };

    public static void main(String[] args) throws IOException {
        face();
        members();
        text(Files.readString(Path.of(args[0])));
        Check.end("FaceTests");
    }

    private static void face() {
        Set<String> found = new TreeSet<>();
        Set<String> publicNames = new TreeSet<>();
        Set<String> otherNames = new TreeSet<>();
        for (Method method : PommelTows.class.getDeclaredMethods()) {
            if (method.isSynthetic()) {
                continue;
            }
            if (Modifier.isPublic(method.getModifiers())) {
                found.add(told(method));
                publicNames.add(method.getName());
            } else {
                Check.holds(method + " is private", Modifier.isPrivate(method.getModifiers()));
                otherNames.add(method.getName());
            }
        }
        for (Class<?> inside : PommelTows.class.getDeclaredClasses()) {
            Check.holds(inside + " is static", Modifier.isStatic(inside.getModifiers()));
            Check.holds(inside + " is not public", !Modifier.isPublic(inside.getModifiers()));
            for (Method method : inside.getDeclaredMethods()) {
                otherNames.add(method.getName());
            }
        }
        Check.holds("the face is " + found, found.equals(new TreeSet<>(Arrays.asList(FACE))));
        otherNames.retainAll(publicNames);
        Check.holds("no other method bears a name of the face: " + otherNames, otherNames.isEmpty());
        Check.holds("the class is final", Modifier.isFinal(PommelTows.class.getModifiers()));
        Check.same("constructors", PommelTows.class.getDeclaredConstructors().length, 1);
        Check.same("public constructors", PommelTows.class.getConstructors().length, 1);
    }

    private static String told(Method method) {
        StringBuilder text = new StringBuilder();
        text.append(method.getReturnType().getSimpleName()).append(' ').append(method.getName()).append('(');
        for (int i = 0; i < method.getParameterCount(); i++) {
            text.append(i == 0 ? "" : ",").append(method.getParameterTypes()[i].getSimpleName());
        }
        text.append(')');
        for (Class<?> thrown : method.getExceptionTypes()) {
            text.append(' ').append(thrown.getSimpleName());
        }
        return text.toString();
    }

    private static void members() {
        for (Field field : PommelTows.class.getDeclaredFields()) {
            Check.holds(field + " is private", Modifier.isPrivate(field.getModifiers()));
            Check.holds(field + " is final", Modifier.isFinal(field.getModifiers()));
        }
        for (Class<?> inside : PommelTows.class.getDeclaredClasses()) {
            for (Field field : inside.getDeclaredFields()) {
                Check.holds(field + " is no static state", !Modifier.isStatic(field.getModifiers()));
            }
        }
    }

    private static void text(String program) {
        String code = program.replaceAll("(?s)/\\*.*?\\*/", "").replaceAll("//[^\n]*", "");
        for (String pattern : NOT_IN_THE_PROGRAM) {
            Matcher matcher = Pattern.compile(pattern).matcher(code);
            Check.holds("no " + pattern + " in the program", !matcher.find());
        }
        Matcher made = Pattern.compile("(?m)^ {8}.*\\bnew \\w+").matcher(code);
        while (made.find()) {
            String line = made.group();
            boolean inAField = line.matches(" {8}final [\\w\\[\\]]+ \\w+ = new \\w+");
            boolean thrown = line.matches(" {8,}throw new \\w+");
            Check.holds("made in a call: " + line.trim(), inAField || thrown);
        }
    }
}
