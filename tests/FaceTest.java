import java.io.IOException;
import java.lang.reflect.Field;
import java.lang.reflect.Method;
import java.lang.reflect.Modifier;
import java.lang.reflect.Parameter;
import java.nio.file.Files;
import java.nio.file.Path;
import java.util.Arrays;
import java.util.List;
import java.util.Set;
import java.util.TreeSet;
import java.util.regex.Matcher;
import java.util.regex.Pattern;
import java.util.stream.Collectors;
import java.util.stream.Stream;

/** The public face, just as the document has it, and what of LANGUAGE.md can be seen from outside. */
public final class FaceTest {
    private static final Check CHECK = new Check("FaceTest");
    private static final String[] FACE = {
        "int feed(long)", "int end(int)", "int text()", "int fault()", "int child(int,int)", "int thing(int,int)",
        "int slack(int)", "int like(int,int,int)", "int fits(int,int)", "int wear(int,int)", "int doff(int,int)",
        "int cold(int)", "int deal(int,int)", "int dress(int)", "int spare(int)", "int winter()",
        "int spring(boolean)", "int ahead(int,int,boolean,int)", "int strong(int,int,boolean)", "int cut(int,int)",
        "int pays(int,int,boolean,int)", "int best(int,int,boolean,int)", "int sew(int,int)",
        "int wish(int,int,boolean,int)", "int swap()", "int settle()", "long odds(int,int)", "int mark(int)",
        "int unmark(int)", "int rows(int)", "int whose(int)", "int lend(int,int,int)", "int keep(int)",
        "int back(int)", "int sheet(int,int,int)", "int lay(int,int,int)", "int read(int,int,int,int)", "int torn()",
        "int count(int)"};
    private static final Path SOURCE = Path.of("src/main/java/HandedDown.java");
    private static final String[] FORBIDDEN = {"throw", "throws", "try", "catch", "synchronized", "assert", "equals",
        "hashCode", "toString", "record", "package", "native", "volatile", "transient", "strictfp"};

    public static void main(String[] args) throws IOException {
        face();
        constants();
        others();
        words();
        lengths();
        CHECK.close();
    }

    private static void face() {
        int modifiers = HandedDown.class.getModifiers();
        CHECK.due("public and final", modifiers & (Modifier.PUBLIC | Modifier.FINAL | Modifier.ABSTRACT),
            Modifier.PUBLIC | Modifier.FINAL);
        CHECK.due("constructors", HandedDown.class.getDeclaredConstructors().length, 1);
        CHECK.due("the public one", HandedDown.class.getConstructors()[0].getParameterCount(), 0);
        Set<String> there = new TreeSet<>();
        for (Method method : HandedDown.class.getDeclaredMethods()) {
            if (Modifier.isPublic(method.getModifiers())) {
                there.add(method.getReturnType() + " " + method.getName() + "("
                    + Arrays.stream(method.getParameterTypes()).map(Class::getName).collect(Collectors.joining(","))
                    + ")");
                CHECK.due(method + " is not static", Modifier.isStatic(method.getModifiers()) ? 1 : 0, 0);
                CHECK.due(method + " declares no exception", method.getExceptionTypes().length, 0);
            }
        }
        CHECK.same("the public methods", there.toString(), new TreeSet<>(List.of(FACE)).toString());
    }

    private static void constants() {
        Set<String> there = new TreeSet<>();
        for (Field field : HandedDown.class.getFields()) {
            there.add(field.getType() + " " + field.getName());
            int modifiers = field.getModifiers();
            CHECK.due(field + " is constant", modifiers & (Modifier.STATIC | Modifier.FINAL),
                Modifier.STATIC | Modifier.FINAL);
        }
        CHECK.same("the public constants", there.toString(), "[int BAD, int FULL, int NONE, int STATE]");
        CHECK.due("BAD", HandedDown.BAD, -1);
        CHECK.due("STATE", HandedDown.STATE, -2);
        CHECK.due("FULL", HandedDown.FULL, -3);
        CHECK.due("NONE", HandedDown.NONE, -4);
    }

    /** Rules 1, 2, 5 and 11: nothing else can be seen, static fields are constants, few of each. */
    private static void others() {
        Set<String> names = Arrays.stream(HandedDown.class.getMethods()).map(Method::getName).collect(Collectors.toSet());
        Class<?>[] inside = HandedDown.class.getDeclaredClasses();
        CHECK.due("classes are some twelve at most", inside.length < 12 ? 0 : inside.length, 0);
        for (Method method : HandedDown.class.getDeclaredMethods()) {
            if (!Modifier.isPublic(method.getModifiers())) {
                CHECK.due(method + " is private", Modifier.isPrivate(method.getModifiers()) ? 1 : 0, 1);
                CHECK.due(method + " has a name of its own", names.contains(method.getName()) ? 1 : 0, 0);
            }
        }
        for (Class<?> one : inside) {
            CHECK.due(one + " is static", Modifier.isStatic(one.getModifiers()) ? 1 : 0, 1);
            CHECK.due(one + " is not seen", one.getModifiers() & (Modifier.PUBLIC | Modifier.PROTECTED), 0);
        }
        for (Class<?> one : Stream.concat(Stream.of(HandedDown.class), Arrays.stream(inside)).toList()) {
            int changing = 0;
            for (Field field : one.getDeclaredFields()) {
                boolean constant = Modifier.isStatic(field.getModifiers());
                changing += constant ? 0 : 1;
                CHECK.due(field + " is a constant or no static", !constant || Modifier.isFinal(field.getModifiers()) ? 1 : 0, 1);
                CHECK.due(field + " is private, or of the face",
                    Modifier.isPrivate(field.getModifiers()) || Modifier.isPublic(field.getModifiers()) ? 1 : 0, 1);
            }
            CHECK.due(one + " has some twenty fields at most", changing <= 20 ? 0 : changing, 0);
            for (Method method : one.getDeclaredMethods()) {
                Parameter[] parameters = method.getParameters();
                CHECK.due(method + " has seven parameters at most", parameters.length <= 7 ? 0 : parameters.length, 0);
            }
        }
    }

    private static String bareSource() throws IOException {
        String source = Files.readString(SOURCE);
        return source.replaceAll("(?s)/\\*.*?\\*/", "").replaceAll("//[^\n]*", "").replaceAll("\"[^\"\n]*\"", "\"\"");
    }

    /** Rules 3, 4 and 6: no word, sign or import that is not allowed. */
    private static void words() throws IOException {
        String bare = bareSource();
        for (String word : FORBIDDEN) {
            CHECK.due("the word " + word, Pattern.compile("\\b" + word + "\\b").matcher(bare).find() ? 1 : 0, 0);
        }
        CHECK.due("no lambda", bare.contains("->") ? 1 : 0, 0);
        CHECK.due("no reference to a method", bare.contains("::") ? 1 : 0, 0);
        CHECK.due("no annotation", bare.contains("@") ? 1 : 0, 0);
        CHECK.due("no static block", Pattern.compile("static\\s*\\{").matcher(bare).find() ? 1 : 0, 0);
        Matcher imports = Pattern.compile("\\bimport\\s+([^;]+);").matcher(bare);
        while (imports.find()) {
            CHECK.due("import of " + imports.group(1),
                List.of("java.util.Arrays", "java.util.ArrayList", "java.util.List").contains(imports.group(1)) ? 1 : 0, 1);
        }
        Matcher calls = Pattern.compile("\\b(Arrays|System|Math|Integer|Long)\\.(\\w+)").matcher(bare);
        while (calls.find()) {
            String call = calls.group();
            boolean allowed = Set.of("Arrays.copyOf", "Arrays.copyOfRange", "Arrays.fill", "System.arraycopy").contains(call)
                || calls.group(1).matches("Math|Integer|Long") && !calls.group(2).endsWith("Exact");
            CHECK.due("call of " + call, allowed ? 1 : 0, 1);
        }
    }

    /** Rule 11: from the line with a method's name to the one with its end are some sixty lines at most. */
    private static void lengths() throws IOException {
        Matcher methods = Pattern.compile("(?m)^( {4}| {8})[\\w\\[\\]<>]+[^=;\n]*\\) \\{\n(?s:.*?)\n\\1\\}").matcher(Files.readString(SOURCE));
        int found = 0;
        while (methods.find()) {
            found++;
            long lines = methods.group().lines().count();
            CHECK.due("lines of " + methods.group().lines().findFirst().orElse("").trim(), lines <= 60 ? 0 : lines, 0);
        }
        CHECK.due("methods were found", found > FACE.length ? 1 : 0, 1);
    }
}
