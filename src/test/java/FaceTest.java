import java.io.IOException;
import java.lang.reflect.Constructor;
import java.lang.reflect.Field;
import java.lang.reflect.Method;
import java.lang.reflect.Modifier;
import java.nio.file.Files;
import java.nio.file.Path;
import java.util.HashSet;
import java.util.Set;
import java.util.TreeSet;
import java.util.regex.Matcher;
import java.util.regex.Pattern;

/** The public face as the document has it, and rules of LANGUAGE.md that can be seen from outside. */
public final class FaceTest {
    private static final String[] FACE = {
        "int type(int)", "int clear()", "int paper()", "int writer(int,int)", "int quarrel(int,int)",
        "int meant(int,int)", "int now(int)", "int writes(int,int)", "int day()", "int lays(int)", "int undo()",
        "int inDays(int,int,int)", "int ends(int)", "int round(int,int,int)", "int last(int)",
        "int bindsNobody(int)", "int keeps(int)", "int lateFirst(int)", "int peace(int)",
        "int found(int,int,int)", "int forget()", "int mayBe(int,int)", "int odds(int,int,int,int)", "int most()",
        "int titles(int,int)", "int rate(int,int)", "int keep(int)", "int back(int)", "int count(int)",
        "long trace()"};
    private static final String[] BANNED = {
        "\\b(throw|throws|try|catch|finally|synchronized|assert|import|equals|hashCode|toString|Random)\\b",
        "->", "::", "Exact\\b", "static\\s*\\{"};
    private static final Set<String> LIBRARY = Set.of("Integer.bitCount", "Math.min", "System.arraycopy");
    private static final int MOST_LINES = 60, MOST_PARAMETERS = 7, MOST_FIELDS = 20;

    public static void main(String[] args) throws IOException {
        constants();
        methods();
        otherMembers();
        for (Class<?> inside : LastWord.class.getDeclaredClasses()) {
            Check.due(inside + " is static", 1, Modifier.isStatic(inside.getModifiers()) ? 1 : 0);
            Check.due(inside + " is not public", 0, Modifier.isPublic(inside.getModifiers()) ? 1 : 0);
            noPublicName(inside);
            size(inside);
        }
        size(LastWord.class);
        Check.due("some twelve classes", 1, LastWord.class.getDeclaredClasses().length < 12 ? 1 : 0);
        source();
        Check.end();
    }

    private static void constants() {
        Check.due("BAD", -1, LastWord.BAD);
        Check.due("STATE", -2, LastWord.STATE);
        Check.due("FULL", -3, LastWord.FULL);
        Check.due("NONE", -9, LastWord.NONE);
        Check.due("NO", -1000000, LastWord.NO);
    }

    private static String signature(Method method) {
        StringBuilder text = new StringBuilder(method.getReturnType() + " " + method.getName() + "(");
        for (Class<?> type : method.getParameterTypes()) {
            text.append(text.charAt(text.length() - 1) == '(' ? "" : ",").append(type);
        }
        return text.append(")").toString();
    }

    private static void methods() {
        Set<String> due = new TreeSet<>(Set.of(FACE));
        Set<String> seen = new TreeSet<>();
        for (Method method : LastWord.class.getDeclaredMethods()) {
            if (Modifier.isPublic(method.getModifiers())) {
                seen.add(signature(method));
            } else {
                Check.due(method + " is private", 1, Modifier.isPrivate(method.getModifiers()) ? 1 : 0);
            }
        }
        Check.due("the methods are " + seen, 1, seen.equals(due) ? 1 : 0);
        noPublicName(LastWord.class);
    }

    private static void noPublicName(Class<?> type) {
        Set<String> names = new HashSet<>();
        for (String method : FACE) {
            names.add(method.substring(method.indexOf(' ') + 1, method.indexOf('(')));
        }
        for (Method method : type.getDeclaredMethods()) {
            if (!Modifier.isPublic(method.getModifiers())) {
                Check.due(method + " has a public one's name", 0, names.contains(method.getName()) ? 1 : 0);
            }
        }
    }

    private static void otherMembers() {
        Set<String> seen = new TreeSet<>();
        for (Field field : LastWord.class.getDeclaredFields()) {
            int how = field.getModifiers();
            if (!Modifier.isPrivate(how)) {
                seen.add(field.getName());
            }
            if (Modifier.isStatic(how)) {
                Check.due(field + " is final", 1, Modifier.isFinal(how) ? 1 : 0);
            }
        }
        Check.due("the constants are " + seen, 1,
            seen.equals(Set.of("BAD", "STATE", "FULL", "NONE", "NO")) ? 1 : 0);
        Constructor<?>[] makers = LastWord.class.getDeclaredConstructors();
        Check.due("constructors", 1, makers.length);
        Check.due("public constructors", 1, LastWord.class.getConstructors().length);
        Check.due("parameters of the constructor", 0, makers[0].getParameterCount());
        Check.due("LastWord is final", 1, Modifier.isFinal(LastWord.class.getModifiers()) ? 1 : 0);
    }

    /** Rules 5 and 11: what is static is final; fields, parameters. */
    private static void size(Class<?> type) {
        int fields = 0;
        for (Field field : type.getDeclaredFields()) {
            if (Modifier.isStatic(field.getModifiers())) {
                Check.due(field + " is final", 1, Modifier.isFinal(field.getModifiers()) ? 1 : 0);
            } else {
                fields++;
            }
        }
        Check.due(type + ": " + fields + " fields are too many", 0, fields > MOST_FIELDS ? 1 : 0);
        for (Method method : type.getDeclaredMethods()) {
            Check.due(method + " has too many parameters", 0, method.getParameterCount() > MOST_PARAMETERS ? 1 : 0);
        }
    }

    /** Rule 4: nothing of the library but what is used now; another name is looked up there before it comes in here. */
    private static void library(String code) {
        Matcher matcher = Pattern.compile("\\b[A-Z]\\w*[a-z]\\w*\\.\\w+").matcher(code);
        while (matcher.find()) {
            Check.due(matcher.group() + " is known", 1, LIBRARY.contains(matcher.group()) ? 1 : 0);
        }
    }

    /** Rule 11: lines from a method's head to the brace that stands as far in as it. */
    private static void methodsAreShort(String code) {
        Matcher matcher = Pattern.compile("(?ms)^( {4}| {8})(?! )[^\\n]*\\) \\{\\n(.*?)^\\1\\}").matcher(code);
        int methods = 0;
        while (matcher.find()) {
            methods++;
            long lines = matcher.group().lines().count();
            Check.due(matcher.group().lines().findFirst().orElse("") + " has " + lines + " lines", 0,
                lines > MOST_LINES ? 1 : 0);
        }
        Check.due("methods are found", 1, methods > FACE.length ? 1 : 0);
    }

    private static void source() throws IOException {
        String code = Files.readString(Path.of("src/main/java/LastWord.java"))
            .replaceAll("(?s)/\\*.*?\\*/", " ").replaceAll("//[^\\n]*", " ");
        for (String banned : BANNED) {
            Matcher matcher = Pattern.compile(banned).matcher(code);
            Check.due("'" + banned + "' in the source", 0, matcher.find() ? 1 : 0);
        }
        library(code);
        methodsAreShort(code);
        for (String line : code.split("\n")) {
            Check.due("a tab in '" + line + "'", -1, line.indexOf('\t'));
        }
    }
}
