import java.io.IOException;
import java.lang.reflect.Method;
import java.lang.reflect.Modifier;
import java.nio.charset.StandardCharsets;
import java.nio.file.Files;
import java.nio.file.Path;
import java.util.Map;
import java.util.Random;
import java.util.Set;
import java.util.TreeMap;
import java.util.TreeSet;
import java.util.regex.Matcher;
import java.util.regex.Pattern;

// README.md: its example answers what stands behind each call, and its tables have every call of the face, with its
// number of parameters and with just the refusals that it answers in drawn states for drawn arguments.
public final class OnePortraitReadme {
    private static final Path README = Path.of("README.md");
    private static final Pattern EXAMPLE_CALL = Pattern.compile("x\\.(\\w+)\\(([^)]*)\\);\\s*// (-?\\d+).*");
    private static final Pattern EXAMPLE_LETTERS =
            Pattern.compile("for \\(char letter : \"([^\"]*)\"\\.toCharArray\\(\\)\\) x\\.feed\\(letter\\);");
    private static final Pattern ROW = Pattern.compile("\\| `(\\w+)\\(([^)]*)\\)` \\|.*\\|([^|]*)\\|");
    private static final int[] DRAWN = {0, 1, 2, 3, 5, 7, 9, 11, 12, 20, 50, 60, 61, 90, 99, 100, 255, 256, -1, -2, -9,
        Integer.MIN_VALUE, Integer.MAX_VALUE};
    private static int wrong = 0;

    private static void due(String what, Object got, Object want) {
        if (!got.equals(want)) {
            wrong++;
            System.out.println("README.md: " + what + " is " + got + ", due is " + want);
        }
    }

    private static Map<String, Method> face() {
        Map<String, Method> face = new TreeMap<>();
        for (Method method : OnePortrait.class.getDeclaredMethods()) {
            if (Modifier.isPublic(method.getModifiers())) {
                face.put(method.getName(), method);
            }
        }
        return face;
    }

    private static long answer(OnePortrait x, Method method, Object[] arguments) {
        try {
            return ((Number) method.invoke(x, arguments)).longValue();
        } catch (ReflectiveOperationException e) {
            throw new IllegalStateException(method.getName(), e);
        }
    }

    private static String[] parameters(String list) {
        return list.isBlank() ? new String[0] : list.split(", ");
    }

    private static void runExample(Iterable<String> lines, Map<String, Method> face) {
        OnePortrait x = new OnePortrait();
        boolean inside = false;
        int calls = 0;
        for (String line : lines) {
            if (line.startsWith("```")) {
                inside = line.equals("```java");
            } else if (inside && !line.equals("OnePortrait x = new OnePortrait();")) {
                calls++;
                runLine(x, line, face);
            }
        }
        due("calls of the example at least 15", calls >= 15, true);
    }

    private static void runLine(OnePortrait x, String line, Map<String, Method> face) {
        Matcher letters = EXAMPLE_LETTERS.matcher(line);
        Matcher call = EXAMPLE_CALL.matcher(line);
        if (letters.matches()) {
            for (char letter : letters.group(1).toCharArray()) {
                x.feed(letter);
            }
        } else if (call.matches() && face.containsKey(call.group(1))) {
            String[] told = parameters(call.group(2));
            Object[] arguments = new Object[told.length];
            for (int i = 0; i < told.length; i++) {
                arguments[i] = Integer.valueOf(told[i]);
            }
            due(line, answer(x, face.get(call.group(1)), arguments), Long.valueOf(call.group(3)));
        } else {
            due("a line of the example", line, "a call with its answer");
        }
    }

    // ---- the tables ----

    private static Set<Integer> refusalsTold(String cell) {
        Set<Integer> numbers = new TreeSet<>();
        for (String group : cell.split(";")) {
            for (String number : group.split(":")[0].split(",")) {
                if (!number.isBlank()) {
                    numbers.add(Integer.valueOf(number.trim()));
                }
            }
        }
        return numbers;
    }

    private static void feed(OnePortrait x, String text) {
        for (char letter : text.toCharArray()) {
            x.feed(letter);
        }
    }

    /** Empty, ordinary, and full of all that there can be. */
    private static OnePortrait inState(int state) {
        OnePortrait x = new OnePortrait();
        if (state == 0) {
            return x;
        }
        int widows = state == 1 ? 3 : 7;
        for (int w = 0; w < widows; w++) {
            x.widow(w % 6, w, 10 * w, w);
        }
        int places = state == 1 ? 4 : 12;
        for (int place = 0; place < places; place++) {
            x.puts(place, place % widows);
        }
        if (state == 2) {
            feed(x, "k60;k60;k60;k60;k60;k60;k60;k60;k60;k60;k60;k60;k60;k60;k60;k60;k30;");
            x.street();
            feed(x, "w".repeat(96));
            for (int i = 0; i < 12; i++) {
                x.row(i);
            }
        }
        x.image();
        x.weeks(1);
        return x;
    }

    private static int[] refusals(OnePortrait x) {
        int[] counts = new int[7];
        for (int number = 1; number <= 6; number++) {
            counts[number] = x.count(10 + number);
        }
        return counts;
    }

    private static Set<Integer> refusalsMet(Method method) {
        Random random = new Random(method.getName().hashCode());
        Set<Integer> met = new TreeSet<>();
        for (int i = 0; i < 6000; i++) {
            OnePortrait x = inState(i % 3);
            Object[] arguments = new Object[method.getParameterCount()];
            for (int p = 0; p < arguments.length; p++) {
                arguments[p] = random.nextInt(3) == 0 ? DRAWN[random.nextInt(DRAWN.length)] : random.nextInt(3);
            }
            int[] was = refusals(x);
            answer(x, method, arguments);
            int[] is = refusals(x);
            for (int number = 1; number <= 6; number++) {
                if (is[number] > was[number]) {
                    met.add(-number);
                }
            }
        }
        return met;
    }

    private static void readTables(Iterable<String> lines, Map<String, Method> face) {
        Set<String> told = new TreeSet<>();
        for (String line : lines) {
            Matcher row = ROW.matcher(line);
            if (row.matches()) {
                String name = row.group(1);
                due(name + " told once", told.add(name), true);
                due(name + " a call of the face", face.containsKey(name), true);
                if (face.containsKey(name)) {
                    Method method = face.get(name);
                    due(name + "'s parameters", parameters(row.group(2)).length, method.getParameterCount());
                    due(name + "'s refusals", refusalsTold(row.group(3)), refusalsMet(method));
                }
            }
        }
        due("the calls of its tables", told, new TreeSet<>(face.keySet()));
    }

    public static void main(String[] args) throws IOException {
        Iterable<String> lines = Files.readAllLines(README, StandardCharsets.UTF_8);
        Map<String, Method> face = face();
        runExample(lines, face);
        readTables(lines, face);
        System.out.println(wrong == 0 ? "README.md is as due" : wrong + " things of README.md are not as due");
        if (wrong != 0) {
            System.exit(1);
        }
    }
}
