import java.lang.reflect.Field;
import java.lang.reflect.Method;
import java.lang.reflect.Modifier;
import java.nio.file.Files;
import java.nio.file.Path;
import java.util.HashSet;
import java.util.Set;
import java.util.regex.Matcher;
import java.util.regex.Pattern;

/** The class has the document's face and no other, and keeps to the rules that can be looked for. */
public final class FaceTest {
    private static final Checks C = new Checks();
    private static final String[] FACE = {
        "int light(int, int, int)", "int terms(int, int, int, int)", "int house(int, int, int, int)",
        "int room(int, int, int, int)", "int make(int, int, int)", "int worth(int, int, int)", "int roof(int, int)",
        "boolean down(int)", "int feed(int, int, int, int, int)", "int end(int)", "int act(int)", "int fault()",
        "int weight(int, int, int)", "int counted(int, int, int)", "long tax(int, int, int)", "long due(int)",
        "long plan(int, int)", "int planned(int)", "int owner()", "int held(int, int, int, boolean, boolean, boolean)",
        "int nearest(int, int)", "int appeal(int, int)", "int overrule(int)", "int heldOf(int, int)",
        "int walk(int, int)", "int look(int, int)", "int route(int, int)", "int late(int, int, int)", "long go()",
        "int roll(int, int, int, int)", "int span(int, int, int, int)", "int habit(int, int, int)", "int ask(int)",
        "long answer(int, int)", "int match(int, int, int)", "int matched(int)", "long beside(int, int)",
        "int heap(int)", "int houseOf(int, int)", "int opening(int, int, int)", "long paid(int)", "int count(int)",
        "int row(int, int, int)", "boolean tear(int)", "int write(int, int, long)", "int paste(int, int, int, int, int)"};

    public static void main(String[] args) throws Exception {
        face();
        source(Files.readString(Path.of("src/main/java/WindowRoll.java")));
        C.finish();
    }

    private static void face() {
        Set<String> due = new HashSet<>(Set.of(FACE));
        Set<String> names = new HashSet<>();
        for (Method m : WindowRoll.class.getDeclaredMethods()) {
            if (Modifier.isPrivate(m.getModifiers())) {
                continue;
            }
            StringBuilder form = new StringBuilder(m.getReturnType().getName()).append(' ').append(m.getName()).append('(');
            for (Class<?> p : m.getParameterTypes()) {
                form.append(form.charAt(form.length() - 1) == '(' ? "" : ", ").append(p.getName());
            }
            C.is("public " + m.getName(), Modifier.isPublic(m.getModifiers()), true);
            C.is("told: " + form, due.remove(form.append(')').toString()), true);
            names.add(m.getName());
        }
        C.is("missing " + due, due.size(), 0);
        for (Method m : WindowRoll.class.getDeclaredMethods()) {
            C.is("private " + m.getName(), Modifier.isPrivate(m.getModifiers()) && names.contains(m.getName()), false);
        }
        for (Class<?> inner : WindowRoll.class.getDeclaredClasses()) {
            C.is("static " + inner, Modifier.isStatic(inner.getModifiers()), true);
            int fields = 0;
            for (Field f : inner.getDeclaredFields()) {
                fields += Modifier.isStatic(f.getModifiers()) ? 0 : 1;
                C.is("static fields are final " + f, !Modifier.isStatic(f.getModifiers())
                    || Modifier.isFinal(f.getModifiers()), true);
            }
            C.is("fields of " + inner, fields <= 20, true);
            for (Method m : inner.getDeclaredMethods()) {
                C.is("name of " + m, names.contains(m.getName()), false);
                C.is("parameters of " + m, m.getParameterCount() <= 7, true);
            }
        }
        C.is("classes", WindowRoll.class.getDeclaredClasses().length <= 12, true);
        for (Field f : WindowRoll.class.getDeclaredFields()) {
            C.is("field " + f.getName(), Modifier.isPrivate(f.getModifiers()) || f.getName().equals("NONE"), true);
        }
        C.is("final", Modifier.isFinal(WindowRoll.class.getModifiers()), true);
        C.is("constructors", WindowRoll.class.getConstructors().length, 1);
    }

    private static void source(String text) {
        String code = text.replaceAll("(?s)/\\*.*?\\*/", "").replaceAll("//[^\n]*", "");
        Matcher banned = Pattern.compile("\\b(throw|throws|try|catch|finally|synchronized|assert|hashCode|package|var|yield"
            + "|ordinal|\\w+Exact)\\b|->|::|\\.toString\\(").matcher(code);
        C.is("outside the rules", banned.find(), false);
        for (char c : text.toCharArray()) {
            C.is("sign", c < 127, true);
        }
        Matcher imports = Pattern.compile("import ([\\w.]+);").matcher(code);
        while (imports.find()) {
            C.is("import " + imports.group(1), imports.group(1).equals("java.util.Arrays"), true);
        }
        String[] lines = text.split("\n");
        int began = 0;
        for (int i = 0; i < lines.length; i++) {
            if (lines[i].matches("( {4}| {8})\\w.*\\{")) {
                began = i;
            }
            if (lines[i].matches(" {8}\\}")) {
                C.is("lines up to " + (i + 1), i - began < 60, true);
            }
        }
    }
}
