import java.lang.reflect.Constructor;
import java.lang.reflect.Field;
import java.lang.reflect.Method;
import java.lang.reflect.Modifier;
import java.nio.file.Files;
import java.nio.file.Path;
import java.util.ArrayList;
import java.util.List;
import java.util.TreeSet;

/** The public face of the document is the class's, and nothing beside it can be seen from outside. */
public final class FaceTest {
    private static final Calls calls = new Calls();

    public static void main(String[] args) throws Exception {
        TreeSet<String> due = new TreeSet<>();
        String source = Files.readString(Path.of("src/main/java/DayProfiles.java"));
        for (String line : face()) {
            due.add(plain(line));
            String head = line.substring(0, line.length() - 1);
            calls.due("in the source, with its names: " + head, source.contains("    " + head) ? 1 : 0, 1);
        }
        TreeSet<String> got = seen();
        for (String member : due) {
            calls.due("the class has: " + member, got.contains(member) ? 1 : 0, 1);
        }
        for (String member : got) {
            calls.due("the document has: " + member, due.contains(member) ? 1 : 0, 1);
        }
        calls.due("members", got.size(), 46);
        calls.due("NONE", DayProfiles.NONE, -1);
        calls.due("public and final", DayProfiles.class.getModifiers(), Modifier.PUBLIC | Modifier.FINAL);
        calls.due("without a package", DayProfiles.class.getPackageName().length(), 0);
        calls.due("a class of nobody", DayProfiles.class.getSuperclass() == Object.class ? 1 : 0, 1);
        calls.due("interfaces", DayProfiles.class.getInterfaces().length, 0);
        inside();
        calls.end();
    }

    /** The members that the document's face lists, a line each. */
    private static List<String> face() throws Exception {
        String document = Files.readString(Path.of("../shared/DOC.md"));
        int start = document.indexOf("public final class DayProfiles {");
        List<String> lines = new ArrayList<>();
        for (String line : document.substring(start, document.indexOf("```", start)).split("\n")) {
            if (line.startsWith("    public ")) {
                lines.add(line.trim());
            }
        }
        return lines;
    }

    /** "public int at(int s, int t) throws A, B;" is "int at(int,int) A B". */
    private static String plain(String line) {
        String text = line.replaceAll("public |static final |;$| = .*", "").replaceAll("(int|boolean) \\w+(?=[,)])", "$1");
        return text.replace(", ", ",").replaceAll(" throws ", " ").replaceAll("(?<=Exception),", " ");
    }

    private static TreeSet<String> seen() {
        TreeSet<String> members = new TreeSet<>();
        for (Constructor<?> one : DayProfiles.class.getDeclaredConstructors()) {
            members.add("DayProfiles" + list(one.getParameterTypes()) + thrown(one.getExceptionTypes()));
        }
        for (Method one : DayProfiles.class.getDeclaredMethods()) {
            if (!Modifier.isPrivate(one.getModifiers()) && !one.isSynthetic()) {
                calls.due("a call of objects: " + one.getName(), one.getModifiers(), Modifier.PUBLIC);
                String name = one.getReturnType().getSimpleName() + " " + one.getName();
                members.add(name + list(one.getParameterTypes()) + thrown(one.getExceptionTypes()));
            }
        }
        for (Field one : DayProfiles.class.getDeclaredFields()) {
            if (!Modifier.isPrivate(one.getModifiers()) && !one.isSynthetic()) {
                int constant = Modifier.PUBLIC | Modifier.STATIC | Modifier.FINAL;
                calls.due("a constant: " + one.getName(), one.getModifiers(), constant);
                members.add(one.getType().getSimpleName() + " " + one.getName());
            }
        }
        return members;
    }

    private static String list(Class<?>[] types) {
        StringBuilder names = new StringBuilder("(");
        for (Class<?> type : types) {
            names.append(names.length() > 1 ? "," : "").append(type.getSimpleName());
        }
        return names.append(")").toString();
    }

    private static String thrown(Class<?>[] types) {
        StringBuilder names = new StringBuilder();
        for (Class<?> type : types) {
            names.append(' ').append(type.getSimpleName());
        }
        return names.toString();
    }

    private static void inside() {
        for (Class<?> one : DayProfiles.class.getDeclaredClasses()) {
            int open = one.getModifiers() & (Modifier.PUBLIC | Modifier.PROTECTED);
            calls.due("class inside: " + one.getSimpleName(), open, 0);
            calls.due("static inside: " + one.getSimpleName(), Modifier.isStatic(one.getModifiers()) ? 1 : 0, 1);
            for (Field field : one.getDeclaredFields()) {
                boolean state = Modifier.isStatic(field.getModifiers()) && !Modifier.isFinal(field.getModifiers());
                calls.due("static state: " + field.getName(), state ? 1 : 0, 0);
            }
        }
    }
}
