import java.io.IOException;
import java.lang.reflect.Constructor;
import java.lang.reflect.Field;
import java.lang.reflect.Method;
import java.lang.reflect.Modifier;
import java.nio.file.Files;
import java.nio.file.Path;
import java.util.Arrays;
import java.util.Set;
import java.util.TreeSet;
import java.util.regex.Matcher;
import java.util.regex.Pattern;

/** The public face of the document and no more, and rules of ../shared/LANGUAGE.md that can be seen from outside. */
final class FaceTest {
    private static final Due due = new Due("face");
    private static final Path SOURCE = Path.of("src/main/java/UnlikeDrawn.java");
    private static final String[] FACE = {
        "int head()", "int place(int,int,int)", "int read(int,int)", "int mean(int,int)", "int type(int,int)",
        "int wipe(int)", "int fault(int)", "int tenths(int,int)", "int drawn(int,int,int,int)", "int set(int,int)",
        "int draw(int,int,int,int)", "int copied(int,int,int)", "int line(int,int)", "int about(int,int)",
        "int unlike(int,int)", "int knower(int,int)", "int look(int,int,int)", "int leans(int,int)",
        "long score(int,int,int,int)", "int named(int,int,int)", "int much(int,int,int,int)",
        "int few(int,int,int,int)", "int stands(int,int,int,int)", "long grows(int,int,int)", "int back(int,int,int)",
        "int near(int,int)", "int witness(int,int,int)", "int plainest(int)", "int sheet(int,int,int)", "int lose(int)",
        "int lay(int,int,int,int)", "int get(int,int,int)", "int copy(int,int,int,int,int)", "int write(int,int)",
        "int count(int)", "long digest()",
    };

    public static void main(String[] args) throws IOException {
        constants();
        members();
        methods();
        nested();
        words();
        due.end();
    }

    private static void holds(String what, boolean so) {
        due.is(what, so ? 1 : 0, 1);
    }

    private static void constants() {
        due.is("NONE", UnlikeDrawn.NONE, -1);
        due.is("BAD", UnlikeDrawn.BAD, -2);
        due.is("NOT", UnlikeDrawn.NOT, -3);
        due.is("FULL", UnlikeDrawn.FULL, -4);
    }

    private static void members() {
        int modifiers = UnlikeDrawn.class.getModifiers();
        holds("public and final", Modifier.isPublic(modifiers) && Modifier.isFinal(modifiers));
        Set<String> seen = new TreeSet<>();
        for (Field field : UnlikeDrawn.class.getDeclaredFields()) {
            if (!Modifier.isPrivate(field.getModifiers())) {
                seen.add(field.toString().replace("UnlikeDrawn.", ""));
            }
            holds("no static field that may change: " + field,
                    !Modifier.isStatic(field.getModifiers()) || Modifier.isFinal(field.getModifiers()));
        }
        Set<String> want = new TreeSet<>();
        for (String name : new String[] {"NONE", "BAD", "NOT", "FULL"}) {
            want.add("public static final int " + name);
        }
        holds("the constants alone: " + seen, seen.equals(want));
        Constructor<?>[] constructors = UnlikeDrawn.class.getDeclaredConstructors();
        due.is("constructors", constructors.length, 1);
        holds("a public one", Modifier.isPublic(constructors[0].getModifiers()));
        due.is("without arguments", constructors[0].getParameterCount(), 0);
    }

    private static void methods() {
        Set<String> seen = new TreeSet<>();
        Set<String> names = new TreeSet<>();
        for (Method method : UnlikeDrawn.class.getDeclaredMethods()) {
            if (Modifier.isPrivate(method.getModifiers())) {
                continue;
            }
            holds("public, not static: " + method,
                    Modifier.isPublic(method.getModifiers()) && !Modifier.isStatic(method.getModifiers()));
            seen.add(told(method));
            names.add(method.getName());
        }
        Set<String> want = new TreeSet<>(Arrays.asList(FACE));
        holds("the methods alone: " + seen, seen.equals(want));
        for (Method method : UnlikeDrawn.class.getDeclaredMethods()) {
            holds("no private method with a public name: " + method,
                    !Modifier.isPrivate(method.getModifiers()) || !names.contains(method.getName()));
            holds("at most seven arguments: " + method, method.getParameterCount() <= 7);
        }
    }

    private static String told(Method method) {
        StringBuilder told = new StringBuilder(method.getReturnType() + " " + method.getName() + "(");
        for (Class<?> type : method.getParameterTypes()) {
            told.append(told.charAt(told.length() - 1) == '(' ? "" : ",").append(type);
        }
        return told.append(")").toString();
    }

    private static void nested() {
        Class<?>[] classes = UnlikeDrawn.class.getDeclaredClasses();
        holds("at most twelve classes", classes.length < 12);
        for (Class<?> one : classes) {
            int modifiers = one.getModifiers();
            holds("static, not public: " + one, Modifier.isStatic(modifiers) && !Modifier.isPublic(modifiers));
            holds("at most twenty fields: " + one, one.getDeclaredFields().length <= 20);
        }
    }

    private static void words() throws IOException {
        String source = Files.readString(SOURCE);
        String code = source.replaceAll("(?s)/\\*.*?\\*/", "").replaceAll("//[^\n]*", "");
        Pattern forbidden = Pattern.compile("\\b(throw|throws|try|catch|synchronized|assert|Exact|Random|Thread|"
                + "protected|package|float|double|hashCode|toString|System\\.(?!arraycopy\\()\\w+)\\b|->|::");
        Matcher found = forbidden.matcher(code);
        while (found.find()) {
            holds("no such word: " + found.group(), false);
        }
        Matcher imports = Pattern.compile("import ([^;]*);").matcher(code);
        while (imports.find()) {
            holds("import " + imports.group(1), imports.group(1).equals("java.util.Arrays"));
        }
        holds("signs 1 to 127 alone", source.chars().allMatch(sign -> sign >= 1 && sign <= 127));
    }
}
