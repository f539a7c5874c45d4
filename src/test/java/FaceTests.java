import java.io.IOException;
import java.lang.reflect.Field;
import java.lang.reflect.Method;
import java.lang.reflect.Modifier;
import java.nio.file.Files;
import java.nio.file.Path;
import java.util.ArrayList;
import java.util.Arrays;
import java.util.List;
import java.util.Set;
import java.util.TreeSet;
import java.util.regex.Matcher;
import java.util.regex.Pattern;

/** The face is the document's, no more; and of LANGUAGE.md what a look at the text can tell. */
public final class FaceTests {
    private static final String[] FACE = {
        "int run(int,int) IndexOutOfBoundsException IllegalArgumentException IllegalStateException",
        "int setPommels(int,int) IndexOutOfBoundsException IllegalArgumentException",
        "int setFlake(int,int) IndexOutOfBoundsException IllegalArgumentException",
        "int cannon(int) IndexOutOfBoundsException IllegalStateException",
        "int blast(int) IndexOutOfBoundsException IllegalStateException",
        "int skier(int,int) IllegalArgumentException IllegalStateException",
        "int wax(int,int) IndexOutOfBoundsException IllegalArgumentException IllegalStateException",
        "int join(int,int) IndexOutOfBoundsException",
        "boolean leave(int) IndexOutOfBoundsException",
        "int about(int,int) IndexOutOfBoundsException",
        "int told(int,int) IndexOutOfBoundsException",
        "int tow(int,int) IndexOutOfBoundsException",
        "int stands(int,int) IndexOutOfBoundsException",
        "int choice(int,int) IndexOutOfBoundsException",
        "int count(int) IndexOutOfBoundsException",
        "int pass(int) IllegalArgumentException",
        "int until(int) IndexOutOfBoundsException",
        "int foresee(int,int) IllegalArgumentException IndexOutOfBoundsException",
        "int advise(int,int) IndexOutOfBoundsException IllegalArgumentException",
        "double mean()",
        "long digest()",
    };

    private static final String[] NOT_IN_THE_PROGRAM = {
        "\\bcatch\\b", "\\bfinally\\b", "\\bsynchronized\\b", "\\bassert\\b", "->", "::", "\\bimport\\b",
        "\\bpackage\\b", "\\bstatic\\s*\\{", "\\bvar\\b", "\\bhashCode\\b", "\\btoString\\b", "\\bequals\\b",
        "Exact\\b", "\\bThread\\b", "System\\.(?!arraycopy)", "\\bRandom\\b", "\\binstanceof\\b",
        "Math\\.(?!abs|max|min|floorMod|floorDiv)", "[^\\x00-\\x7f]",
    };

    public static void main(String[] args) throws IOException {
        face();
        Path document = Path.of(args[1]);
        if (Files.exists(document)) {
            faceOfDocument(Files.readString(document));
        } else {
            System.out.println("the document is not there: the face is not compared with it");
        }
        members();
        text(Files.readString(Path.of(args[0])));
        Check.end("FaceTests");
    }

    private static void face() {
        Set<String> found = Face.ofTheClass();
        Set<String> publicNames = new TreeSet<>();
        Set<String> otherNames = new TreeSet<>();
        for (Method method : PommelTows.class.getDeclaredMethods()) {
            if (method.isSynthetic()) {
                continue;
            }
            if (Modifier.isPublic(method.getModifiers())) {
                publicNames.add(method.getName());
            } else {
                Check.holds(method + " is private", Modifier.isPrivate(method.getModifiers()));
                otherNames.add(method.getName());
            }
        }
        for (Class<?> inside : PommelTows.class.getDeclaredClasses()) {
            Check.holds(inside + " is static", Modifier.isStatic(inside.getModifiers()));
            Check.holds(inside + " is not public", !Modifier.isPublic(inside.getModifiers()));
            for (Method method : inside.getDeclaredMethods()) {
                otherNames.add(method.getName());
            }
        }
        Check.holds("the face is " + found, found.equals(new TreeSet<>(Arrays.asList(FACE))));
        otherNames.retainAll(publicNames);
        Check.holds("no other method bears a name of the face: " + otherNames, otherNames.isEmpty());
        Check.holds("the class is final", Modifier.isFinal(PommelTows.class.getModifiers()));
        Check.same("constructors", PommelTows.class.getDeclaredConstructors().length, 1);
        Check.same("public constructors", PommelTows.class.getConstructors().length, 1);
    }

    /** The list above is the document's, and each promise bears the signature of its call. */
    private static void faceOfDocument(String document) {
        Set<String> due = new TreeSet<>(Arrays.asList(FACE));
        Set<String> face = declared(document, "(?m)^    public (\\w+ \\w+\\(.*);$");
        Set<String> promised = declared(document, "(?m)^`(\\w+ \\w+\\([^`]*)`: ");
        Check.holds("the document's face is " + face + ": that", due.equals(face));
        Check.holds("the promises' signatures are " + promised + ": that", due.equals(promised));
    }

    private static Set<String> declared(String document, String pattern) {
        Set<String> calls = new TreeSet<>();
        Matcher rows = Pattern.compile(pattern).matcher(document);
        while (rows.find()) {
            calls.add(Face.told(rows.group(1)));
        }
        return calls;
    }

    private static void members() {
        for (Field field : PommelTows.class.getDeclaredFields()) {
            Check.holds(field + " is private", Modifier.isPrivate(field.getModifiers()));
            Check.holds(field + " is final", Modifier.isFinal(field.getModifiers()));
        }
        for (Class<?> inside : PommelTows.class.getDeclaredClasses()) {
            for (Field field : inside.getDeclaredFields()) {
                Check.holds(field + " is no static state", !Modifier.isStatic(field.getModifiers()));
            }
        }
        sizes();
    }

    /** Rule 11. */
    private static void sizes() {
        Class<?>[] insides = PommelTows.class.getDeclaredClasses();
        Check.holds("at most twelve classes", insides.length + 1 <= 12);
        List<Class<?>> classes = new ArrayList<>(Arrays.asList(insides));
        classes.add(PommelTows.class);
        for (Class<?> each : classes) {
            int fields = 0;
            for (Field field : each.getDeclaredFields()) {
                fields += Modifier.isStatic(field.getModifiers()) ? 0 : 1;
            }
            Check.holds(each + " has at most twenty fields", fields <= 20);
            for (Method method : each.getDeclaredMethods()) {
                Check.holds(method + " takes at most seven", method.getParameterCount() <= 7);
            }
        }
    }

    private static void text(String program) {
        String code = program.replaceAll("(?s)/\\*.*?\\*/", "").replaceAll("//[^\n]*", "");
        for (String pattern : NOT_IN_THE_PROGRAM) {
            Matcher matcher = Pattern.compile(pattern).matcher(code);
            Check.holds("no " + pattern + " in the program", !matcher.find());
        }
        // from the line that opens a method to the brace below its first letter
        Matcher methods = Pattern.compile("(?ms)^( {4}| {8})\\w[^\n;=]*\\(.*?^\\1\\}$").matcher(code);
        int seen = 0;
        while (methods.find()) {
            seen++;
            String method = methods.group();
            long lines = method.lines().count();
            Check.holds(lines + " lines are short: " + method.lines().findFirst().orElse(""), lines <= 60);
        }
        Check.holds(seen + " methods were seen: enough", seen > 50);
        Matcher made = Pattern.compile("(?m)^ {8}.*\\bnew \\w+").matcher(code);
        while (made.find()) {
            String line = made.group();
            boolean inAField = line.matches(" {8}final [\\w\\[\\]]+ \\w+ = new \\w+");
            boolean thrown = line.matches(" {8,}throw new \\w+");
            Check.holds("made in a call: " + line.trim(), inAField || thrown);
        }
    }
}
