import java.io.IOException;
import java.lang.reflect.Constructor;
import java.lang.reflect.Field;
import java.lang.reflect.Method;
import java.lang.reflect.Modifier;
import java.nio.file.Files;
import java.nio.file.Path;
import java.util.ArrayList;
import java.util.HashSet;
import java.util.List;
import java.util.Set;
import java.util.TreeSet;
import java.util.regex.Matcher;
import java.util.regex.Pattern;

/** The face of the document and those rules of LANGUAGE.md that can be seen from the source or the classes. */
public final class RulesTest {
    private static final String SOURCE = "src/main/java/LeftGlove.java";
    private static final String[] FACE = {"about(int)", "auction(int,boolean)", "back()", "bargain(int,int,int,int,int)",
        "book(int,int)", "by(int)", "chest(int,int)", "claim(int)", "coldest()", "day(int)", "end(int)",
        "estate(int,int,boolean)", "fault(int)", "feed(int,int,int,int,int)", "find(int,int)", "fined(int)",
        "firstFine(int)", "foretold(int,int,int)", "free()", "frosts(int,int,int,int,boolean)", "grown(int,int)",
        "image()", "is(int)", "lives(int)", "lose(int)", "of(int,int)", "ofGlove(int,int)", "one(int,int)",
        "order(int,int)", "pairs()", "pass(int,int)", "played(int)", "pledge(int)", "price(int,int)", "redeem(int)",
        "richest()", "ring()", "test(int)", "text()", "tries(int,boolean)", "undo()",
        "unrest(int,int,int,int,int,int,int)", "weds(int,int)", "whose(int,int)", "whoseLaw()", "winters(int,int)",
        "work(int,int)"};
    private static final String[] FORBIDDEN = {"throw", "throws", "try", "catch", "finally", "synchronized", "assert",
        "import", "package", "native", "volatile", "transient", "strictfp", "var", "->", "::", "Object", "Thread",
        "Exact", "double", "float", "@"};

    private static final Check check = new Check();

    public static void main(String[] args) throws IOException {
        face();
        classes();
        source(Files.readString(Path.of(SOURCE)));
        check.close("RulesTest");
    }

    private static void face() {
        Set<String> methods = new TreeSet<>();
        for (Method method : LeftGlove.class.getDeclaredMethods()) {
            if (!Modifier.isPrivate(method.getModifiers())) {
                methods.add(method.toString().replaceAll(".*LeftGlove\\.", ""));
                check.due(method + " is public", Modifier.isPublic(method.getModifiers()), true);
            }
        }
        check.due("the face is " + methods, methods.equals(new TreeSet<>(List.of(FACE))), true);
        check.due("final", Modifier.isFinal(LeftGlove.class.getModifiers()), true);
        int open = 0;
        for (Field field : LeftGlove.class.getDeclaredFields()) {
            open += Modifier.isPrivate(field.getModifiers()) ? 0 : 1;
        }
        check.due("NONE is the only field to be seen", open, 1);
        Constructor<?>[] made = LeftGlove.class.getDeclaredConstructors();
        check.due("one constructor", made.length, 1);
        check.due("without parameters", made[0].getParameterCount(), 0);
    }

    private static void classes() {
        Class<?>[] inside = LeftGlove.class.getDeclaredClasses();
        check.due("at most twelve classes", inside.length < 12, true);
        Set<String> publicOnes = new HashSet<>();
        for (Method method : LeftGlove.class.getMethods()) {
            publicOnes.add(method.getName());
        }
        List<Class<?>> all = new ArrayList<>(List.of(inside));
        all.add(LeftGlove.class);
        for (Class<?> one : all) {
            check.due(one + " static", one == LeftGlove.class || Modifier.isStatic(one.getModifiers()), true);
            int fields = 0;
            for (Field field : one.getDeclaredFields()) {
                boolean isStatic = Modifier.isStatic(field.getModifiers());
                fields += isStatic ? 0 : 1;
                check.due(field + " final", !isStatic || Modifier.isFinal(field.getModifiers()), true);
            }
            check.due(one + " has at most twenty fields", fields <= 20, true);
            for (Method method : one.getDeclaredMethods()) {
                boolean isFace = one == LeftGlove.class && Modifier.isPublic(method.getModifiers());
                check.due(method + " bears a public name", !isFace && publicOnes.contains(method.getName()), false);
                check.due(method + " has at most seven parameters", method.getParameterCount() <= 7, true);
            }
        }
    }

    private static void source(String source) {
        String code = source.replaceAll("(?s)/\\*.*?\\*/|//[^\n]*", "").replaceAll("\"[^\"\n]*\"", "TEXT");
        for (String word : FORBIDDEN) {
            String pattern = Character.isLetter(word.charAt(0)) ? "\\b\\w*" + word + "\\b" : Pattern.quote(word);
            if (!word.equals("Exact")) {
                pattern = pattern.replace("\\w*", "");
            }
            check.due("uses " + word, Pattern.compile(pattern).matcher(code).find(), false);
        }
        check.due("signs beyond 127", source.chars().anyMatch(sign -> sign > 127), false);
        check.due("texts joined by +", Pattern.compile("TEXT\\s*\\+|\\+\\s*TEXT").matcher(code).find(), false);
        check.due("static blocks", Pattern.compile("static\\s*\\{").matcher(code).find(), false);
        methodLengths(source);
    }

    private static void methodLengths(String source) {
        Matcher method = Pattern.compile("(?m)^( +)[\\w\\[\\] ]+\\([^)]*\\) \\{\n((?:\\1 .*\n|\n)*)\\1\\}").matcher(source);
        int many = 0;
        while (method.find()) {
            many++;
            long lines = method.group().lines().count();
            check.due(method.group().lines().findFirst().get().trim() + " " + lines, lines <= 60, true);
        }
        check.due("methods were seen", many > 150, true);
    }
}
