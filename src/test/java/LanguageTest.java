import java.io.IOException;
import java.lang.reflect.Constructor;
import java.lang.reflect.Field;
import java.lang.reflect.Member;
import java.lang.reflect.Method;
import java.lang.reflect.Modifier;
import java.nio.file.Files;
import java.nio.file.Path;
import java.util.ArrayList;
import java.util.List;
import java.util.Set;
import java.util.TreeSet;
import java.util.regex.Matcher;
import java.util.regex.Pattern;

/** The public face, and what of LANGUAGE.md can be seen in the class and in its text. */
public final class LanguageTest {
    private static final String FACE = """
            floor(int,int) thing(int,int,int) clear(int) as(int,int) at(int,int) lean(int) shut(int)
            path(int,int) step(int,int,int) closes(int,int) spread(int,int,boolean) sees(int,int) seen(int)
            rings() ring(int,boolean) lamp(int,int,int) out() face(int,int) lit(int) bright(int) opened(boolean)
            open() turns(int,int) turn(int) far(int,int) first(int,int) reach(int) visit(int,int)
            sheet(int,int,int) put(int,int,int) copy(int,int,int,int,int) row(int,int) undo() all(int)""";

    public static void main(String[] args) throws IOException {
        List<Class<?>> classes = new ArrayList<>(List.of(MirrorMaze.class.getDeclaredClasses()));
        face();
        nestedClasses(classes);
        classes.add(MirrorMaze.class);
        classes.forEach(LanguageTest::members);
        text(withoutComments(Files.readString(Path.of("src/main/java/MirrorMaze.java"))));
        Script.end("LanguageTest");
    }

    private static void holds(String what, boolean is) {
        Script.due("LANGUAGE.md", what, is ? 1 : 0, 1);
    }

    private static void face() {
        holds("the class is public and final", isPublic(MirrorMaze.class.getModifiers())
                && Modifier.isFinal(MirrorMaze.class.getModifiers()));
        Set<String> due = new TreeSet<>(List.of(FACE.split("\\s+")));
        Set<String> found = new TreeSet<>();
        for (Method method : MirrorMaze.class.getDeclaredMethods()) {
            if (isPublic(method.getModifiers())) {
                holds(method + " answers an int", method.getReturnType() == int.class);
                holds(method + " is no static one", !Modifier.isStatic(method.getModifiers()));
                found.add(signature(method));
            } else {
                holds(method + " is private", Modifier.isPrivate(method.getModifiers()));
            }
        }
        holds("the public methods are those of the document, not " + found, found.equals(due));
        Constructor<?>[] constructors = MirrorMaze.class.getDeclaredConstructors();
        holds("one public constructor without parameters", constructors.length == 1
                && isPublic(constructors[0].getModifiers()) && constructors[0].getParameterCount() == 0);
        for (Field field : MirrorMaze.class.getDeclaredFields()) {
            holds(field + " is private", Modifier.isPrivate(field.getModifiers()));
        }
    }

    private static String signature(Method method) {
        StringBuilder text = new StringBuilder();
        for (Class<?> type : method.getParameterTypes()) {
            text.append(text.length() == 0 ? "" : ",").append(type.getName());
        }
        return method.getName() + "(" + text + ")";
    }

    private static boolean isPublic(int modifiers) {
        return Modifier.isPublic(modifiers);
    }

    private static void nestedClasses(List<Class<?>> classes) {
        holds("some twelve classes at most", classes.size() < 12);
        Set<String> names = new TreeSet<>();
        for (String call : FACE.split("\\s+")) {
            names.add(call.substring(0, call.indexOf('(')));
        }
        for (Class<?> type : classes) {
            holds(type + " is static", Modifier.isStatic(type.getModifiers()));
            holds(type + " is not public", !isPublic(type.getModifiers()));
            for (Method method : type.getDeclaredMethods()) {
                holds(method + " bears no public method's name", !names.contains(method.getName()));
            }
        }
        for (Method method : MirrorMaze.class.getDeclaredMethods()) {
            holds(method + " bears no public method's name",
                    isPublic(method.getModifiers()) || !names.contains(method.getName()));
        }
    }

    private static void members(Class<?> type) {
        int fields = 0;
        for (Field field : type.getDeclaredFields()) {
            if (isStatic(field)) {
                holds(field + " is final", Modifier.isFinal(field.getModifiers()));
            } else {
                fields++;
            }
        }
        holds(type + " has some twenty fields at most", fields <= 20);
        for (Method method : type.getDeclaredMethods()) {
            holds(method + " takes seven parameters at most", method.getParameterCount() <= 7);
        }
    }

    private static boolean isStatic(Member member) {
        return Modifier.isStatic(member.getModifiers());
    }

    private static String withoutComments(String text) {
        return text.replaceAll("(?s)/\\*.*?\\*/", "").replaceAll("//[^\n]*", "");
    }

    private static void text(String text) {
        for (String word : List.of("throw", "throws", "try", "catch", "finally", "synchronized", "assert", "package",
                "hashCode", "toString", "System.out", "Random", "nanoTime", "currentTimeMillis", "Object", "Exception")) {
            holds("no " + word, !Pattern.compile("\\b" + Pattern.quote(word) + "\\b").matcher(text).find());
        }
        for (String sign : List.of("->", "::", "static {", "Exact(")) {
            holds("no " + sign, !text.contains(sign));
        }
        Matcher imports = Pattern.compile("import ([^;]*);").matcher(text);
        while (imports.find()) {
            holds("no import of " + imports.group(1), Set.of("java.util.Arrays", "java.util.ArrayList", "java.util.List",
                    "java.util.Iterator").contains(imports.group(1)));
        }
        for (char sign : text.toCharArray()) {
            if (sign > 126) {
                holds("only plain signs, not " + (int) sign, false);
            }
        }
        shortMethods(text);
        objectsOnlyInConstructors(text);
    }

    private static void shortMethods(String text) {
        int lines = 0;
        for (String line : text.split("\n")) {
            boolean isMethod = line.matches("( {4}| {8})[a-zA-Z].*\\) \\{") && !line.contains(" class ");
            lines = isMethod ? 0 : lines + 1;
            holds("a method of sixty lines at most, not: " + line, lines <= 60 || !line.startsWith("            "));
        }
    }

    /** What calls make stays in the one room of a run, so calls make nothing. */
    private static void objectsOnlyInConstructors(String text) {
        String opened = "";
        for (String line : text.split("\n")) {
            if (line.matches("( {4}| {8})[a-zA-Z].*\\) \\{")) {
                opened = line.trim();
            }
            if (line.contains("new ") && !line.contains("static final")) {
                holds("nothing is made but in constructors, not: " + line, opened.matches("(public )?[A-Z][a-zA-Z]*\\(\\) \\{"));
            }
        }
    }
}
