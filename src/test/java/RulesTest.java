import java.io.IOException;
import java.lang.reflect.Constructor;
import java.lang.reflect.Field;
import java.lang.reflect.Method;
import java.lang.reflect.Modifier;
import java.nio.file.Files;
import java.nio.file.Path;
import java.util.ArrayList;
import java.util.HashSet;
import java.util.List;
import java.util.Set;
import java.util.TreeSet;
import java.util.regex.Matcher;
import java.util.regex.Pattern;

/** The face of the document and those rules of LANGUAGE.md that can be seen from the source or the classes. */
public final class RulesTest {
    private static final String SOURCE = "src/main/java/LeftGlove.java";
    private static final String[] FACE = {"int about(int)", "int auction(int,boolean)", "int back()",
        "int bargain(int,int,int,int,int)", "int book(int,int)", "boolean by(int)", "int chest(int,int)",
        "int claim(int)", "int coldest()", "int day(int)", "int end(int)", "int estate(int,int,boolean)",
        "int fault(int)", "int feed(int,int,int,int,int)", "boolean find(int,int)", "int fined(int)",
        "int firstFine(int)", "int foretold(int,int,int)", "int free()", "int frosts(int,int,int,int,boolean)",
        "int grown(int,int)", "int image()", "int is(int)", "int lives(int)", "boolean lose(int)", "int of(int,int)",
        "int ofGlove(int,int)", "int one(int,int)", "int order(int,int)", "int pairs()", "boolean pass(int,int)",
        "int played(int)", "int pledge(int)", "boolean price(int,int)", "int redeem(int)", "int richest()",
        "int ring()", "int test(int)", "int text()", "int tries(int,boolean)", "int undo()",
        "int unrest(int,int,int,int,int,int,int)", "int weds(int,int)", "int whose(int,int)", "int whoseLaw()",
        "int winters(int,int)", "int work(int,int)"};
    private static final String[] FORBIDDEN = {"throw", "throws", "try", "catch", "finally", "synchronized", "assert",
        "import", "package", "native", "volatile", "transient", "strictfp", "var", "->", "::", "Object", "Thread",
        "Exact", "double", "float", "@"};

    private static final Check check = new Check();

    public static void main(String[] args) throws IOException, ReflectiveOperationException {
        face();
        classes();
        source(Files.readString(Path.of(SOURCE)));
        check.close("RulesTest");
    }

    private static void face() throws ReflectiveOperationException {
        Set<String> methods = new TreeSet<>();
        for (Method method : LeftGlove.class.getDeclaredMethods()) {
            if (!Modifier.isPrivate(method.getModifiers())) {
                methods.add(method.toString().replace("public ", "").replace("LeftGlove.", ""));
                check.due(method + " is public", Modifier.isPublic(method.getModifiers()), true);
            }
        }
        check.due("the face is " + methods, methods.equals(new TreeSet<>(List.of(FACE))), true);
        check.due("final", Modifier.isFinal(LeftGlove.class.getModifiers()), true);
        check.due("public", Modifier.isPublic(LeftGlove.class.getModifiers()), true);
        int open = 0;
        for (Field field : LeftGlove.class.getDeclaredFields()) {
            open += Modifier.isPrivate(field.getModifiers()) ? 0 : 1;
        }
        check.due("NONE is the only field to be seen", open, 1);
        Field none = LeftGlove.class.getDeclaredField("NONE");
        check.same("NONE", none.toString(), "public static final int LeftGlove.NONE");
        check.due("NONE", none.getInt(null), -1);
        Constructor<?>[] made = LeftGlove.class.getDeclaredConstructors();
        check.due("one constructor", made.length, 1);
        check.due("without parameters", made[0].getParameterCount(), 0);
        check.due("public, too", Modifier.isPublic(made[0].getModifiers()), true);
    }

    private static void classes() {
        Class<?>[] inside = LeftGlove.class.getDeclaredClasses();
        check.due("at most twelve classes", inside.length < 12, true);
        Set<String> publicOnes = new HashSet<>();
        for (Method method : LeftGlove.class.getMethods()) {
            publicOnes.add(method.getName());
        }
        List<Class<?>> all = new ArrayList<>(List.of(inside));
        all.add(LeftGlove.class);
        for (Class<?> one : all) {
            check.due(one + " static", one == LeftGlove.class || Modifier.isStatic(one.getModifiers()), true);
            int fields = 0;
            for (Field field : one.getDeclaredFields()) {
                boolean isStatic = Modifier.isStatic(field.getModifiers());
                fields += isStatic ? 0 : 1;
                check.due(field + " final", !isStatic || Modifier.isFinal(field.getModifiers()), true);
            }
            check.due(one + " has at most twenty fields", fields <= 20, true);
            for (Method method : one.getDeclaredMethods()) {
                boolean isFace = one == LeftGlove.class && Modifier.isPublic(method.getModifiers());
                check.due(method + " bears a public name", !isFace && publicOnes.contains(method.getName()), false);
                check.due(method + " has at most seven parameters", method.getParameterCount() <= 7, true);
            }
        }
    }

    private static void source(String source) {
        String code = source.replaceAll("(?s)/\\*.*?\\*/|//[^\n]*", "").replaceAll("\"[^\"\n]*\"", "TEXT");
        for (String word : FORBIDDEN) {
            String pattern = Character.isLetter(word.charAt(0)) ? "\\b\\w*" + word + "\\b" : Pattern.quote(word);
            if (!word.equals("Exact")) {
                pattern = pattern.replace("\\w*", "");
            }
            check.due("uses " + word, Pattern.compile(pattern).matcher(code).find(), false);
        }
        check.due("signs beyond 127", source.chars().anyMatch(sign -> sign > 127), false);
        check.due("texts joined by +", Pattern.compile("TEXT\\s*\\+|\\+\\s*TEXT").matcher(code).find(), false);
        check.due("static blocks", Pattern.compile("static\\s*\\{").matcher(code).find(), false);
        methodLengths(source);
    }

    private static void methodLengths(String source) {
        Matcher method = Pattern.compile("(?m)^( +)[\\w\\[\\] ]+\\([^)]*\\) \\{\n((?:\\1 .*\n|\n)*)\\1\\}").matcher(source);
        int many = 0;
        while (method.find()) {
            many++;
            long lines = method.group().lines().count();
            check.due(method.group().lines().findFirst().get().trim() + " " + lines, lines <= 60, true);
        }
        check.due("methods were seen", many > 150, true);
    }
}
