import java.lang.reflect.Method;
import java.nio.file.Files;
import java.nio.file.Path;
import java.util.regex.Matcher;
import java.util.regex.Pattern;

/** The README's example: each call in it answers the number that stands behind it. */
public final class ReadmeTest {
    private static final Calls calls = new Calls();
    private static final Pattern CALL = Pattern.compile("(?m)^x\\.(\\w+)\\(([^)]*)\\); *// (-?\\d+)\\b");

    public static void main(String[] args) throws Exception {
        String readme = Files.readString(Path.of("README.md"));
        DayProfiles x = new DayProfiles();
        Matcher call = CALL.matcher(readme);
        int asked = 0;
        while (call.find()) {
            long got = answer(x, call.group(1), call.group(2).split(", *"));
            calls.due(call.group(), got, Integer.parseInt(call.group(3)));
            asked++;
        }
        int lines = (int) readme.lines().filter(line -> line.startsWith("x.")).count();
        calls.due("lines with a call", asked, lines);
        calls.due("enough of them", asked >= 20 ? 1 : 0, 1);
        for (Method one : DayProfiles.class.getMethods()) {
            if (one.getDeclaringClass() == DayProfiles.class) {
                calls.due("the README names " + one.getName(), readme.contains("`" + one.getName() + "`") ? 1 : 0, 1);
            }
        }
        calls.end();
    }

    private static int answer(DayProfiles x, String name, String[] words) throws Exception {
        int number = words.length == 1 && words[0].isEmpty() ? 0 : words.length;
        for (Method one : DayProfiles.class.getMethods()) {
            if (one.getName().equals(name) && one.getParameterCount() == number) {
                Object[] values = new Object[number];
                for (int i = 0; i < number; i++) {
                    boolean yesOrNo = one.getParameterTypes()[i] == boolean.class;
                    values[i] = yesOrNo ? (Object) words[i].equals("true") : (Object) Integer.decode(words[i]);
                }
                return (int) one.invoke(x, values);
            }
        }
        calls.due("there is a call " + name, 0, 1);
        return 0;
    }
}
