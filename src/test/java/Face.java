import java.lang.reflect.Method;
import java.lang.reflect.Modifier;
import java.util.Set;
import java.util.TreeSet;
import java.util.regex.Matcher;
import java.util.regex.Pattern;

/** The calls of the class, and those that a text shows, written alike: "int run(int,int) AnException ..". */
final class Face {
    private static final Pattern DECLARED =
            Pattern.compile("(\\w+ \\w+)\\(([\\w ,]*)\\)(?: throws ([\\w ,]+))?");

    private Face() {
    }

    static Set<String> ofTheClass() {
        Set<String> calls = new TreeSet<>();
        for (Method method : PommelTows.class.getDeclaredMethods()) {
            if (Modifier.isPublic(method.getModifiers()) && !method.isSynthetic()) {
                calls.add(told(method));
            }
        }
        return calls;
    }

    private static String told(Method method) {
        StringBuilder text = new StringBuilder();
        text.append(method.getReturnType().getSimpleName()).append(' ').append(method.getName()).append('(');
        for (int i = 0; i < method.getParameterCount(); i++) {
            text.append(i == 0 ? "" : ",").append(method.getParameterTypes()[i].getSimpleName());
        }
        text.append(')');
        for (Class<?> thrown : method.getExceptionTypes()) {
            text.append(' ').append(thrown.getSimpleName());
        }
        return text.toString();
    }

    /** What a declaration says, without the names of its parameters; none for a constructor. */
    static String told(String declaration) {
        Matcher parts = DECLARED.matcher(declaration);
        if (!parts.find()) {
            return "";
        }
        String types = parts.group(2).replaceAll(" \\w+(?=,|$)", "").replace(" ", "");
        String thrown = parts.group(3) == null ? "" : " " + parts.group(3).replace(",", "");
        return parts.group(1) + "(" + types + ")" + thrown;
    }

    static String withoutExceptions(String call) {
        return call.substring(0, call.indexOf(')') + 1);
    }
}
