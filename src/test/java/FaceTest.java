import java.io.IOException;
import java.lang.reflect.Constructor;
import java.lang.reflect.Field;
import java.lang.reflect.Method;
import java.lang.reflect.Modifier;
import java.nio.file.Files;
import java.nio.file.Path;
import java.util.List;
import java.util.Set;
import java.util.TreeSet;

/** The public face, and the rules of LANGUAGE.md that can be seen in the class and its source. */
public final class FaceTest {
    private static final Check check = new Check("FaceTest");
    private static final List<String> DUE = List.of(
            "int person(int,int)", "boolean master(int)", "boolean death(int,int)", "int days(int)",
            "int term(int,int,int,int)", "boolean back(int)", "boolean give(int,int,int)",
            "int feed(int)", "boolean end(int)", "int fault()", "int statute(int)",
            "int force(int,int)", "int value(int,int,int,int)", "int may(int,int,int)",
            "int piece(int,long)", "int judge(int,int)", "boolean mark(int,int,int,int)",
            "int told(int,int)", "boolean hire(int,int)", "boolean leave(int)",
            "boolean number(int,int)", "int hands(int)", "int lawful(int)", "boolean kin(int,int)",
            "int look(int,int) throws NoSuchElementException", "int count(int)");
    private static final List<String> BARRED = List.of(
            "->", "::", "Exact", "catch", "finally", "synchronized", "assert ", "static {",
            "hashCode", "toString", "System.out", "try {");

    public static void main(String[] args) throws IOException {
        face();
        classesInside();
        source(Files.readString(Path.of("src/main/java/GuildHouse.java")));
        check.finish();
    }

    private static void face() {
        Set<String> shown = new TreeSet<>();
        Set<String> names = new TreeSet<>();
        for (Method method : GuildHouse.class.getDeclaredMethods()) {
            if (!Modifier.isPrivate(method.getModifiers())) {
                check.yes(method + " is public", Modifier.isPublic(method.getModifiers()));
                shown.add(signature(method));
                names.add(method.getName());
            }
        }
        for (Method method : GuildHouse.class.getDeclaredMethods()) {
            check.no(method + " bears a public name",
                    Modifier.isPrivate(method.getModifiers()) && names.contains(method.getName()));
        }
        check.yes("the methods are the document's, not " + shown, shown.equals(new TreeSet<>(DUE)));
        Constructor<?>[] makers = GuildHouse.class.getDeclaredConstructors();
        check.yes("one public constructor without parameters", makers.length == 1
                && Modifier.isPublic(makers[0].getModifiers()) && makers[0].getParameterCount() == 0);
        check.yes("a final class", Modifier.isFinal(GuildHouse.class.getModifiers()));
        for (Field field : GuildHouse.class.getDeclaredFields()) {
            boolean constant = field.getName().equals("NONE") && Modifier.isPublic(field.getModifiers());
            check.yes(field + " is private", constant || Modifier.isPrivate(field.getModifiers()));
            int modifiers = field.getModifiers();
            check.yes(field + " is final if static", !Modifier.isStatic(modifiers) || Modifier.isFinal(modifiers));
        }
        check.same("NONE", GuildHouse.NONE, -1);
    }

    private static String signature(Method method) {
        StringBuilder text = new StringBuilder(method.getReturnType() + " " + method.getName() + "(");
        for (Class<?> type : method.getParameterTypes()) {
            text.append(text.charAt(text.length() - 1) == '(' ? "" : ",").append(type);
        }
        text.append(')');
        for (Class<?> type : method.getExceptionTypes()) {
            text.append(" throws ").append(type.getSimpleName());
        }
        return text.toString();
    }

    private static void classesInside() {
        Class<?>[] inside = GuildHouse.class.getDeclaredClasses();
        check.yes("some twelve classes at most", inside.length <= 12);
        for (Class<?> one : inside) {
            check.yes(one + " is static", Modifier.isStatic(one.getModifiers()));
            check.no(one + " is public", Modifier.isPublic(one.getModifiers()));
            for (Method method : one.getDeclaredMethods()) {
                check.yes(method + ": at most seven parameters", method.getParameterCount() <= 7);
            }
        }
    }

    private static void source(String text) {
        for (String word : BARRED) {
            check.no("the source has " + word, text.contains(word));
        }
        int begin = 0;
        int imports = 0;
        int line = 0;
        for (String each : text.split("\n")) {
            line++;
            imports += each.startsWith("import ") ? 1 : 0;
            check.yes("signs of line " + line, each.chars().allMatch(sign -> sign >= 32 && sign < 127));
            boolean member = each.matches("( {4}| {8})[a-zA-Z].*\\) (throws \\w+ )?\\{");
            begin = member ? line : begin;
            if (each.matches(" {4}\\}| {8}\\}")) {
                check.yes("the method that ends in line " + line + " is short", line - begin <= 60 || begin == 0);
                begin = 0;
            }
        }
        check.same("imports", imports, 1);
        check.no("a package", text.startsWith("package"));
    }
}
