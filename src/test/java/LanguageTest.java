import java.io.IOException;
import java.lang.reflect.Constructor;
import java.lang.reflect.Field;
import java.lang.reflect.Method;
import java.lang.reflect.Modifier;
import java.nio.file.Files;
import java.nio.file.Path;
import java.util.ArrayList;
import java.util.List;
import java.util.Set;
import java.util.TreeSet;
import java.util.regex.Matcher;
import java.util.regex.Pattern;

/** The rules of LANGUAGE.md that can be seen in the source or in the compiled class, and the face of the document. */
public final class LanguageTest {
    private static final Path SOURCE = Path.of("src/main/java/NearEnough.java");
    private static final String[] FORBIDDEN = {"\\bthrow\\b", "\\bthrows\\b", "\\btry\\b", "\\bcatch\\b",
        "\\bfinally\\b", "\\bsynchronized\\b", "\\bassert\\b", "\\bvolatile\\b", "\\bpackage\\b", "\\bprotected\\b",
        "->", "::", "@", "Exact\\b", "\\bstatic \\{", "\\bhashCode\\b", "\\bequals\\b", "\\btoString\\b", "\\bfloat\\b",
        "\\bdouble\\b", "\\bvar\\b", "\\bSystem\\.(?!arraycopy)", "\\bThread\\b", "\\bwhile \\(true\\)", "\\bfor \\(;;"};
    private static final String[] FACE = {"int feed(int,int,int,int,int)", "int end(int)", "int program()",
        "int fault(int)", "int span(int,boolean)", "int sheet(boolean)", "boolean put(int,int,int,int)",
        "int change(int,int,int,int)", "long value(int,int,int)", "long error(int,int,boolean)", "long off(int,int)",
        "int barred(int)", "long measured(int,int)", "int passed(int,int)", "long mean(int,int,int)", "int saved(int)",
        "int ticks(int)", "int let(int)", "int best()", "int front(int)", "long pair(int,int,int)",
        "int guard(int,int,int)", "int through(int,int)", "int turned(int,int)", "long worst(int,int,int)",
        "long led(int,int,int,int)", "boolean purse(int)", "int day(int,int,int)", "int plan(int,int)",
        "int planned(int,int,int)", "int about(int)"};
    private static final Pattern METHOD =
            Pattern.compile("(?m)^( {4}| {8})((?:public |private |static )*)(?:[\\w\\[\\]]+ )?(\\w+)\\(([^)]*)\\) \\{$");

    private LanguageTest() {
    }

    public static void main(String[] args) throws IOException {
        String source = Files.readString(SOURCE);
        texts(source);
        String code = bare(source);
        forbidden(code);
        methods(code);
        face();
        classes();
        Check.finish();
    }

    private static String bare(String source) {
        String code = source.replaceAll("(?s)/\\*.*?\\*/", "").replaceAll("//[^\n]*", "");
        return code.replaceAll("\"[^\"\n]*\"", "\"\"");
    }

    private static void texts(String source) {
        Check.due("signs beyond 127", source.chars().filter(sign -> sign > 127).count(), 0);
        Matcher joined = Pattern.compile("\" *\\+|\\+ *\"").matcher(source);
        Check.due("texts joined by +", joined.find(), false);
        Matcher imports = Pattern.compile("(?m)^import (.*);$").matcher(source);
        while (imports.find()) {
            boolean listed = Set.of("java.util.Arrays", "java.util.ArrayList", "java.util.List")
                    .contains(imports.group(1));
            Check.due("import of " + imports.group(1), listed, true);
        }
    }

    private static void forbidden(String code) {
        for (String pattern : FORBIDDEN) {
            Check.due("code with " + pattern, Pattern.compile(pattern).matcher(code).find(), false);
        }
    }

    private static void methods(String code) {
        Set<String> publicNames = new TreeSet<>();
        for (String method : FACE) {
            publicNames.add(method.replaceAll(".* |\\(.*", ""));
        }
        Matcher method = METHOD.matcher(code);
        int found = 0;
        while (method.find()) {
            found++;
            String name = method.group(3);
            int end = code.indexOf("\n" + method.group(1) + "}", method.end());
            long lines = code.substring(method.start(), end).lines().count() + 1;
            Check.due(name + " has " + lines + " lines, 60 at most", lines <= 60, true);
            int parameters = method.group(4).isBlank() ? 0 : method.group(4).split(",").length;
            Check.due(name + " takes " + parameters + ", seven at most", parameters <= 7, true);
            if (!method.group(2).contains("public")) {
                Check.due(name + " bears a public name", publicNames.contains(name), false);
            }
        }
        Check.due("methods are found at all", found > FACE.length, true);
    }

    private static void face() {
        Set<String> due = new TreeSet<>(List.of(FACE));
        for (Method method : NearEnough.class.getDeclaredMethods()) {
            List<String> parameters = new ArrayList<>();
            for (Class<?> parameter : method.getParameterTypes()) {
                parameters.add(parameter.getName());
            }
            String shape = method.getReturnType().getName() + " " + method.getName() + "("
                    + String.join(",", parameters) + ")";
            if (!due.remove(shape)) {
                Check.due(shape + " is private", Modifier.isPrivate(method.getModifiers()), true);
            } else {
                Check.due(shape + " is public", Modifier.isPublic(method.getModifiers()), true);
                Check.due(shape + " is no static one", Modifier.isStatic(method.getModifiers()), false);
            }
        }
        Check.due("missing of the face: " + due, due.size(), 0);
        Constructor<?>[] constructors = NearEnough.class.getDeclaredConstructors();
        Check.due("constructors", constructors.length, 1);
        Check.due("its parameters", constructors[0].getParameterCount(), 0);
        Check.due("it is public", Modifier.isPublic(constructors[0].getModifiers()), true);
        Check.due("the class is final", Modifier.isFinal(NearEnough.class.getModifiers()), true);
        Check.due("NONE", NearEnough.NONE, -1);
        for (Field field : NearEnough.class.getDeclaredFields()) {
            boolean isPrivate = Modifier.isPrivate(field.getModifiers());
            Check.due(field.getName() + " is private or NONE", isPrivate || field.getName().equals("NONE"), true);
        }
    }

    private static void classes() {
        Class<?>[] inside = NearEnough.class.getDeclaredClasses();
        Check.due("classes: " + (inside.length + 1), inside.length + 1 <= 12, true);
        List<Class<?>> all = new ArrayList<>(List.of(inside));
        all.add(NearEnough.class);
        for (Class<?> one : all) {
            int fields = 0;
            for (Field field : one.getDeclaredFields()) {
                boolean isStatic = Modifier.isStatic(field.getModifiers());
                fields += isStatic ? 0 : 1;
                boolean constant = !isStatic || Modifier.isFinal(field.getModifiers());
                Check.due(field.getName() + " of " + one.getName() + ", if static, is final", constant, true);
            }
            Check.due(one.getName() + " has " + fields + " fields, 20 at most", fields <= 20, true);
            boolean isStatic = one == NearEnough.class || Modifier.isStatic(one.getModifiers());
            Check.due(one.getName() + " is static", isStatic, true);
        }
    }
}
