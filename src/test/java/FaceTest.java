import java.lang.reflect.Constructor;
import java.lang.reflect.Field;
import java.lang.reflect.Method;
import java.lang.reflect.Modifier;
import java.nio.file.Files;
import java.nio.file.Path;
import java.util.ArrayList;
import java.util.List;
import java.util.Set;
import java.util.TreeSet;
import java.util.regex.Matcher;
import java.util.regex.Pattern;

/** The public face and some rules of the language, by reflection and by the text of the class. */
public final class FaceTest {
    private static final String[] FACE = {
        "int right(int,int)", "int cut(int)", "int rate(int)", "int cold(int,int,int)", "boolean go(int)",
        "int feed(int,int,int,int,int)", "int end(int)", "int spans()", "int lay(int,int,int,int)", "int buy(int)",
        "int drop(int)", "boolean kind(int,int,int,int,int,int,int)", "int blow(int,int,int)", "int open(int)",
        "int pass(int)", "int pot(int,int)", "int piece(int,int)", "int pay(int)", "int shift(int,int,int)",
        "int shifted(int)", "int cost(int,int,int)", "int way(int,int,int)", "int move(int)", "int moved(int)",
        "int count(int)"};
    private static final Check CHECK = new Check();

    public static void main(String[] args) throws Exception {
        face();
        nested();
        sizes();
        methodLines();
        forbiddenWords();
        CHECK.finish();
    }

    private static void face() {
        Class<GlassHut> hut = GlassHut.class;
        CHECK.due("final and public", hut.getModifiers(), Modifier.PUBLIC | Modifier.FINAL);
        Set<String> visible = new TreeSet<>();
        for (Method one : hut.getDeclaredMethods()) {
            if (!Modifier.isPrivate(one.getModifiers())) {
                StringBuilder types = new StringBuilder();
                for (Class<?> type : one.getParameterTypes()) {
                    types.append(types.length() > 0 ? "," : "").append(type.getName());
                }
                visible.add(one.getReturnType().getName() + " " + one.getName() + "(" + types + ")");
                CHECK.due(one.getName() + " is public alone", one.getModifiers(), Modifier.PUBLIC);
            }
        }
        CHECK.due("the methods are " + visible, visible.equals(new TreeSet<>(Set.of(FACE))), true);
        for (Field one : hut.getDeclaredFields()) {
            boolean constant = one.getName().equals("NONE")
                    && one.getModifiers() == (Modifier.PUBLIC | Modifier.STATIC | Modifier.FINAL);
            CHECK.due("field " + one.getName(), constant || Modifier.isPrivate(one.getModifiers()), true);
        }
        Constructor<?>[] made = hut.getDeclaredConstructors();
        CHECK.due("one constructor", made.length, 1);
        CHECK.due("a public one", made[0].getModifiers(), Modifier.PUBLIC);
        CHECK.due("NONE", GlassHut.NONE, -1);
    }

    private static void nested() {
        Set<String> names = new TreeSet<>();
        for (String one : FACE) {
            names.add(one.substring(one.indexOf(' ') + 1, one.indexOf('(')));
        }
        for (Method one : GlassHut.class.getDeclaredMethods()) {
            if (Modifier.isPrivate(one.getModifiers())) {
                CHECK.due("name of " + one.getName(), names.contains(one.getName()), false);
            }
        }
        for (Class<?> inside : GlassHut.class.getDeclaredClasses()) {
            CHECK.due(inside + " is static", Modifier.isStatic(inside.getModifiers()), true);
            CHECK.due(inside + " is hidden", Modifier.isPublic(inside.getModifiers()), false);
            for (Method one : inside.getDeclaredMethods()) {
                CHECK.due("name of " + one, names.contains(one.getName()), false);
            }
        }
    }

    private static void sizes() {
        List<Class<?>> classes = new ArrayList<>(List.of(GlassHut.class.getDeclaredClasses()));
        classes.add(GlassHut.class);
        CHECK.due("classes (" + classes.size() + ") are twelve at most", classes.size() <= 12, true);
        for (Class<?> one : classes) {
            int fields = 0;
            for (Field field : one.getDeclaredFields()) {
                boolean kept = Modifier.isStatic(field.getModifiers());
                fields += kept ? 0 : 1;
                CHECK.due(field + " is a constant number", !kept
                        || Modifier.isFinal(field.getModifiers()) && field.getType() == int.class, true);
            }
            CHECK.due(one + " has " + fields + " fields, twenty at most", fields <= 20, true);
            for (Method method : one.getDeclaredMethods()) {
                CHECK.due(method + " has seven parameters at most", method.getParameterCount() <= 7, true);
            }
        }
    }

    /** A method begins at a line that ends with a brace behind its parameters, and ends at a brace as far in. */
    private static void methodLines() throws Exception {
        String text = Files.readString(Path.of("src/main/java/GlassHut.java"));
        String method = "(?ms)^( {4}| {8})(?! )[^\\n;]*\\([^\\n;{}]*\\) \\{\\n.*?^\\1\\}";
        Matcher found = Pattern.compile(method).matcher(text);
        int methods = 0;
        while (found.find()) {
            methods++;
            long lines = found.group().lines().count();
            CHECK.due(found.group().lines().findFirst().get() + " has " + lines + " lines", lines <= 60, true);
        }
        CHECK.due("methods (" + methods + ") are found", methods >= 60, true);
    }

    private static void forbiddenWords() throws Exception {
        String text = Files.readString(Path.of("src/main/java/GlassHut.java"));
        String code = text.replaceAll("(?s)/\\*.*?\\*/", " ").replaceAll("//[^\n]*", " ");
        Matcher found = Pattern.compile("\\b(throw|throws|try|catch|finally|synchronized|assert|package|System|Thread"
                + "|Random)\\b|->|::|Exact\\b").matcher(code);
        while (found.find()) {
            CHECK.due("the word " + found.group(), true, false);
        }
        Matcher imports = Pattern.compile("\\bimport\\s+([\\w.*]+)").matcher(code);
        while (imports.find()) {
            CHECK.due("import " + imports.group(1), imports.group(1).equals("java.util.Arrays"), true);
        }
    }
}
