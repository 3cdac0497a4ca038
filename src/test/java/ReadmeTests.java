import java.io.IOException;
import java.lang.reflect.Method;
import java.nio.file.Files;
import java.nio.file.Path;
import java.util.List;
import java.util.Set;
import java.util.TreeSet;
import java.util.regex.Matcher;
import java.util.regex.Pattern;

/** README.md's example is run as it stands there: each call has to answer what its comment begins with. */
public final class ReadmeTests {
    private static final Pattern CALL = Pattern.compile("office\\.(\\w+)\\((.*)\\); +// (\\S+): .*");
    private static final Pattern MAKING = Pattern.compile("SongOffice office = new SongOffice\\(\\);");

    private static int wrong = 0;

    public static void main(String[] args) throws Exception {
        Set<String> called = new TreeSet<>();
        SongOffice office = new SongOffice();
        for (String row : example()) {
            Matcher m = CALL.matcher(row);
            if (m.matches()) {
                called.add(m.group(1));
                due(row, String.valueOf(answer(office, m.group(1), m.group(2))), m.group(3));
            } else {
                due(row, String.valueOf(MAKING.matcher(row).matches()), "true");
            }
        }
        due("the calls of the example", called.toString(), face().toString());
        System.out.println(wrong == 0 ? "README.md's example is true" : wrong + " rows of README.md are wrong");
        if (wrong != 0) {
            System.exit(1);
        }
    }

    private static List<String> example() throws IOException {
        List<String> rows = Files.readAllLines(Path.of("README.md"));
        int first = rows.indexOf("```java") + 1;
        int end = first + rows.subList(first, rows.size()).indexOf("```");
        return rows.subList(first, end);
    }

    private static Set<String> face() {
        Set<String> names = new TreeSet<>();
        for (Method method : SongOffice.class.getDeclaredMethods()) {
            if (java.lang.reflect.Modifier.isPublic(method.getModifiers())) {
                names.add(method.getName());
            }
        }
        return names;
    }

    private static Object answer(SongOffice office, String name, String texts) throws Exception {
        String[] given = texts.isEmpty() ? new String[0] : texts.split(", ");
        for (Method method : SongOffice.class.getMethods()) {
            if (method.getName().equals(name) && method.getParameterCount() == given.length) {
                Object[] values = new Object[given.length];
                for (int i = 0; i < given.length; i++) {
                    values[i] = method.getParameterTypes()[i] == boolean.class
                        ? (Object) Boolean.valueOf(given[i]) : (Object) number(given[i]);
                }
                return method.invoke(office, values);
            }
        }
        return "no such call";
    }

    private static Integer number(String text) {
        return text.equals("SongOffice.NONE") ? SongOffice.NONE : Integer.valueOf(text);
    }

    private static void due(String what, String got, String want) {
        if (!got.equals(want)) {
            wrong++;
            System.out.println(what + " answered " + got + ", due is " + want);
        }
    }
}
