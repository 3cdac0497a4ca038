import java.lang.reflect.Constructor;
import java.lang.reflect.Field;
import java.lang.reflect.Method;
import java.lang.reflect.Modifier;
import java.nio.file.Files;
import java.nio.file.Path;
import java.util.Arrays;
import java.util.HashSet;
import java.util.List;
import java.util.Set;
import java.util.TreeSet;
import java.util.regex.Matcher;
import java.util.regex.Pattern;

/** What of LANGUAGE.md can be read off the source and the compiled classes; run from the project's root. */
public final class LanguageRules {
    private static final String[] FACE = {
        "share", "bargain", "report", "tear", "sent", "close", "due", "hand", "has", "told", "mend", "owe", "settle",
        "line", "count"};
    private static final String[] FORBIDDEN = {
        "throw", "try", "catch", "synchronized", "assert", "throws", "package", "finally", "volatile", "native", "var",
        "Object", "Random", "Thread", "Exception", "Optional", "HashMap", "Map", "Exact"};

    private static int wrong = 0;

    public static void main(String[] args) throws Exception {
        String source = Files.readString(Path.of("src/main/java/SongOffice.java"));
        words(source);
        methodLengths(source);
        face();
        for (Class<?> c : SongOffice.class.getDeclaredClasses()) {
            inside(c);
        }
        fields(SongOffice.class);
        roomOfAnObject();
        System.out.println(wrong == 0 ? "the rules are kept" : wrong + " rules are broken");
        if (wrong != 0) {
            System.exit(1);
        }
    }

    private static void rule(boolean kept, String what) {
        if (!kept) {
            wrong++;
            System.out.println("broken: " + what);
        }
    }

    private static void words(String source) {
        String bare = source.replaceAll("(?s)/\\*.*?\\*/", " ").replaceAll("//[^\n]*", " ");
        for (String word : FORBIDDEN) {
            rule(!Pattern.compile("\\b" + word + "\\b").matcher(bare).find(), "6, 4: the word " + word);
        }
        rule(!bare.contains("->") && !bare.contains("::"), "2: a lambda or a method reference");
        Matcher imports = Pattern.compile("(?m)^import (.*);").matcher(bare);
        while (imports.find()) {
            rule(imports.group(1).equals("java.util.Arrays"), "4: import " + imports.group(1));
        }
        rule(source.chars().allMatch(c -> c < 128), "4: signs above 127");
    }

    private static void methodLengths(String source) {
        int begun = 0;
        int row = 0;
        for (String text : source.split("\n")) {
            row++;
            if (text.matches(" {4,8}[a-zA-Z].*\\) \\{")) {
                begun = row;
            }
            if (text.matches(" {4,8}\\}") && begun > 0) {
                rule(row - begun < 60, "11: the method at row " + begun + " is long");
                begun = 0;
            }
        }
    }

    private static void face() {
        Set<String> due = new TreeSet<>(Arrays.asList(FACE));
        Set<String> found = new TreeSet<>();
        for (Method m : SongOffice.class.getDeclaredMethods()) {
            boolean isPublic = Modifier.isPublic(m.getModifiers());
            rule(isPublic || Modifier.isPrivate(m.getModifiers()), "1: visible " + m);
            rule(isPublic == due.contains(m.getName()), "1: the name of " + m);
            if (isPublic) {
                found.add(m.getName());
            } else {
                rule(m.getParameterCount() <= 7, "11: the parameters of " + m);
            }
        }
        rule(found.equals(due), "1: the face " + found);
        rule(Modifier.isFinal(SongOffice.class.getModifiers()), "1: final");
        for (Constructor<?> c : SongOffice.class.getDeclaredConstructors()) {
            rule(Modifier.isPublic(c.getModifiers()) && c.getParameterCount() == 0, "1: " + c);
        }
        for (Field f : SongOffice.class.getDeclaredFields()) {
            rule(Modifier.isPrivate(f.getModifiers()) || f.getName().equals("NONE"), "1: visible " + f);
        }
        rule(SongOffice.class.getDeclaredClasses().length < 12, "11: classes");
    }

    private static void inside(Class<?> c) {
        Set<String> due = new HashSet<>(Arrays.asList(FACE));
        rule(Modifier.isStatic(c.getModifiers()), "2: not static " + c);
        rule(!Modifier.isPublic(c.getModifiers()) && !Modifier.isProtected(c.getModifiers()), "1: visible " + c);
        for (Method m : c.getDeclaredMethods()) {
            rule(!due.contains(m.getName()), "1: the name of " + m);
            rule(m.getParameterCount() <= 7, "11: the parameters of " + m);
        }
        for (Constructor<?> k : c.getDeclaredConstructors()) {
            rule(k.getParameterCount() <= 7, "11: the parameters of " + k);
        }
        fields(c);
    }

    private static void fields(Class<?> c) {
        int own = 0;
        for (Field f : c.getDeclaredFields()) {
            if (Modifier.isStatic(f.getModifiers())) {
                rule(Modifier.isFinal(f.getModifiers()), "5: " + f);
            } else {
                own++;
            }
            rule(!f.getType().isArray() || List.of("int[]", "long[]").contains(f.getType().getSimpleName()), "3: " + f);
        }
        rule(own <= 20, "11: the fields of " + c);
    }

    /** All that an object ever makes it makes at once: no call makes another, so 512 objects fit the room. */
    private static void roomOfAnObject() throws Exception {
        long[] counts = new long[2];
        measure(new SongOffice(), new HashSet<>(), counts);
        rule(counts[0] * 512 < 600_000, "12: objects " + counts[0]);
        rule(counts[1] * 512 < 7_300_000, "12: fields and elements " + counts[1]);
        String source = Files.readString(Path.of("src/main/java/SongOffice.java"));
        Matcher made = Pattern.compile("(?m)^.*\\bnew\\b.*$").matcher(source);
        while (made.find()) {
            String text = made.group().trim();
            rule(text.matches("((private )?final )?[\\w\\[\\] ]+ = new \\w+[\\[(].*;"), "12: made by a call: " + text);
        }
    }

    private static void measure(Object o, Set<Integer> seen, long[] counts) throws Exception {
        if (o == null || !seen.add(System.identityHashCode(o))) {
            return;
        }
        counts[0]++;
        if (o.getClass().isArray()) {
            counts[1] += java.lang.reflect.Array.getLength(o);
            return;
        }
        for (Field f : o.getClass().getDeclaredFields()) {
            if (!Modifier.isStatic(f.getModifiers())) {
                counts[1]++;
                f.setAccessible(true);
                if (!f.getType().isPrimitive()) {
                    measure(f.get(o), seen, counts);
                }
            }
        }
    }
}
