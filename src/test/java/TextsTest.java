import java.util.ArrayList;
import java.util.List;
import java.util.Random;
import java.util.regex.Matcher;
import java.util.regex.Pattern;

/** Random texts, spoilt at random, against a second reader that works in another way. */
public final class TextsTest {
    private static final Calls calls = new Calls();
    private static final Pattern TOKENS = Pattern.compile("[a-z]+|[0-9]+|;|[^\\n ]");

    private final Random random;
    private final List<String> stops = new ArrayList<>();

    public static void main(String[] args) {
        int runs = args.length > 0 ? Integer.parseInt(args[0]) : 60000;
        int[] seen = new int[5];
        for (int seed = 1; seed <= runs; seed++) {
            String text = new TextsTest(seed).spoiltText();
            int[] due = read(text);
            seen[due[1]]++;
            DayProfiles x = new DayProfiles();
            String name = "seed " + seed + " " + text;
            calls.due(name, Calls.text(x, text), due[0]);
            calls.due(name + " fault", x.fault(0), due[1]);
            calls.due(name + " place", x.fault(1), due[2]);
        }
        for (int fault = 0; fault <= 4; fault++) {
            calls.due("texts with fault " + fault, seen[fault] * 50 >= runs ? 1 : 0, 1);
        }
        calls.end();
    }

    private TextsTest(int seed) {
        random = new Random(seed);
    }

    // ---- the second reader ----

    /** Lines (-1 with a fault), fault, place: each token's faults are listed, the least counts. */
    private static int[] read(String text) {
        List<String> known = new ArrayList<>();
        int[] made = new int[3];
        int lines = 0;
        List<String> line = new ArrayList<>();
        Matcher m = TOKENS.matcher(text);
        while (m.find()) {
            int fault = faultOf(line, m.group(), known, made);
            if (fault > 0) {
                return new int[] {-1, fault, m.start()};
            }
            line.add(m.group());
            if (m.group().equals(";")) {
                lines++;
                line.clear();
            }
        }
        return line.isEmpty() ? new int[] {lines, 0, -1} : new int[] {-1, 1, text.length()};
    }

    private static boolean word(String token) {
        return token.matches("[a-z]{1,6}") && !token.matches("stop|walk|trip");
    }

    private static boolean number(String token) {
        return token.matches("[0-9]+");
    }

    private static int value(String token) {
        String digits = token.replaceFirst("^0+", "");
        return digits.isEmpty() ? 0 : digits.length() > 6 ? 999999 : Integer.parseInt(digits);
    }

    /** made: walks, trips, rides. */
    private static int faultOf(List<String> line, String token, List<String> known, int[] made) {
        if (line.isEmpty()) {
            switch (token) {
                case "stop":
                    return known.size() == 10 ? 2 : 0;
                case "walk":
                    return made[0]++ == 12 ? 2 : 0;
                case "trip":
                    return made[1]++ == 20 ? 2 : 0;
                default:
                    return 1;
            }
        }
        int n = line.size();
        switch (line.get(0)) {
            case "stop":
                if (n == 1 && word(token) && !known.contains(token)) {
                    known.add(token);
                    return 0;
                }
                return n == 1 ? (word(token) ? 3 : 1) : n == 2 ? range(token, 0, 60) : end(token);
            case "walk":
                return n <= 2 ? stop(token, known, n == 2 ? line.get(1) : "") : n == 3 ? range(token, 1, 240) : end(token);
            default:
                return inTrip(line, token, known, made);
        }
    }

    private static int inTrip(List<String> line, String token, List<String> known, int[] made) {
        int n = line.size();
        if (n % 3 == 1) {
            return stop(token, known, n > 1 ? line.get(n - 3) : "");
        }
        if (n > 2 && n % 3 == 2 && token.equals(";")) {
            return 0;
        }
        int fault = range(token, 0, 1439);
        if (fault == 0 && n % 3 == 2 && made[2]++ == 60) {
            return 2;
        }
        if (fault == 0 && n % 3 == 2 && n > 2 && value(token) < value(line.get(n - 2))) {
            return 4;
        }
        return fault == 0 && n % 3 == 0 && value(token) <= value(line.get(n - 1)) ? 4 : fault;
    }

    private static int range(String token, int least, int most) {
        return !number(token) ? 1 : value(token) < least || value(token) > most ? 2 : 0;
    }

    private static int end(String token) {
        return token.equals(";") ? 0 : 1;
    }

    private static int stop(String token, List<String> known, String ahead) {
        return !known.contains(token) ? 1 : token.equals(ahead) ? 3 : 0;
    }

    // ---- texts ----

    private int below(int n) {
        return random.nextInt(n);
    }

    private String spoiltText() {
        StringBuilder text = new StringBuilder();
        int lines = below(30);
        for (int i = 0; i < lines && text.length() < 700; i++) {
            line(text);
        }
        if (below(4) == 0) {
            fill(text);
        }
        for (int i = below(3); i > 0 && text.length() > 0; i--) {
            spoil(text);
        }
        text.setLength(Math.min(text.length(), 900));
        return text.toString();
    }

    /** More of something than there may be. */
    private void fill(StringBuilder text) {
        text.setLength(0);
        int what = below(4);
        if (what > 0) {
            text.append("stop a 0;stop b 0;");
        }
        if (what == 0) {
            for (int i = 0; i < 9 + below(3); i++) {
                text.append("stop ").append((char) ('a' + i)).append(" 0;");
            }
        } else if (what == 1) {
            text.append("walk a b 5;".repeat(11 + below(3)));
        } else if (what == 2) {
            text.append("trip a 1 2 b;".repeat(19 + below(3)));
        } else {
            text.append("trip a");
            int rides = 59 + below(3);
            for (int i = 0; i < rides; i++) {
                text.append(' ').append(i).append(' ').append(i + 1).append(i % 2 == 0 ? " b" : " a");
            }
            text.append(';');
        }
    }

    private void line(StringBuilder text) {
        int kind = stops.size() < 2 ? 0 : below(5);
        if (kind == 0) {
            String name = randomName();
            stops.add(name);
            text.append("stop").append(gap()).append(name).append(gap()).append(below(61));
        } else if (kind == 1) {
            int a = below(stops.size());
            text.append("walk ").append(stops.get(a)).append(gap());
            text.append(stops.get((a + 1) % stops.size())).append(gap()).append(1 + below(240));
        } else {
            int stop = below(stops.size());
            int minute = below(1300);
            text.append("trip ").append(stops.get(stop));
            for (int i = below(4); i >= 0; i--) {
                text.append(gap()).append(minute).append(' ').append(minute + 1);
                stop = (stop + 1 + below(stops.size() - 1)) % stops.size();
                text.append(gap()).append(stops.get(stop));
                minute += 1 + below(20);
            }
        }
        text.append(below(4) == 0 ? " ;\n" : ";");
    }

    private String gap() {
        return below(5) == 0 ? "\n  " : " ";
    }

    private String randomName() {
        StringBuilder name = new StringBuilder();
        for (int i = below(below(3) == 0 ? 7 : 2); i >= 0; i--) {
            name.append((char) ('a' + below(26)));
        }
        return name.toString();
    }

    private void spoil(StringBuilder text) {
        int place = below(text.length());
        switch (below(8)) {
            case 0:
                text.deleteCharAt(place);
                return;
            case 1:
                text.insert(place, "abcz;059 \n\tA-_\u00e1\u007f\u0000{`/:".charAt(below(21)));
                return;
            case 2:
                text.setLength(place);
                return;
            case 3:
                swapToken(text, "stop walk trip a b ; 0 1439 1440 241 99999999999".split(" ")[below(11)]);
                return;
            case 4:
                text.insert(place, ' ');
                return;
            case 5:
                if (!stops.isEmpty()) {
                    swapToken(text, stops.get(below(stops.size())));
                }
                return;
            default:
                swapToken(text, String.valueOf(below(1500)));
        }
    }

    private void swapToken(StringBuilder text, String token) {
        List<int[]> places = new ArrayList<>();
        Matcher m = TOKENS.matcher(text);
        while (m.find()) {
            places.add(new int[] {m.start(), m.end()});
        }
        if (!places.isEmpty()) {
            int[] place = places.get(below(places.size()));
            text.replace(place[0], place[1], token);
        }
    }
}
