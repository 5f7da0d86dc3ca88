import java.io.IOException;
import java.lang.reflect.Array;
import java.lang.reflect.Field;
import java.lang.reflect.Method;
import java.lang.reflect.Modifier;
import java.nio.file.Files;
import java.nio.file.Path;
import java.util.ArrayList;
import java.util.Collections;
import java.util.IdentityHashMap;
import java.util.List;
import java.util.Locale;
import java.util.Map;
import java.util.Set;
import java.util.TreeMap;
import java.util.TreeSet;
import java.util.regex.Matcher;
import java.util.regex.Pattern;
import java.util.stream.Stream;

/** What README.md shows of the class is what the class answers, and it shows every call. */
public final class ReadmeTest {
    private static final Pattern MADE = Pattern.compile("GalleryWatch (\\w+) = new GalleryWatch\\(\\);");
    private static final Pattern CALL = Pattern.compile("(\\w+)\\.(\\w+)\\(([-\\d, ]*)\\); +// (-?\\d+|BAD|NO|FULL|NONE)\\b.*");

    private final Map<String, EdgeRun> runs = new TreeMap<>();
    private final Set<String> shown = new TreeSet<>();
    private final List<String> faults = new ArrayList<>();
    private int answers;

    public static void main(String[] args) throws IOException {
        String text = Files.readString(Path.of("README.md"));
        ReadmeTest test = new ReadmeTest();
        for (String block : blocks(text, "java")) block.lines().forEach(test::read);
        for (String name : List.copyOf(test.runs.keySet())) test.end(name);
        test.lookForGaps();
        for (String block : blocks(text, "text")) test.readEdges(block);
        test.weigh(text);
        for (String fault : test.faults) System.out.println("README.md: " + fault);
        System.out.println(test.answers + " answers of README.md, " + test.faults.size() + " faults");
        if (!test.faults.isEmpty()) System.exit(1);
    }

    private static List<String> blocks(String text, String language) {
        List<String> blocks = new ArrayList<>();
        Matcher m = Pattern.compile("(?ms)^```" + language + "\n(.*?)^```$").matcher(text);
        while (m.find()) blocks.add(m.group(1));
        return blocks;
    }

    /** A block goes on with the objects of the blocks above it, as a reader does. */
    private void read(String line) {
        Matcher made = MADE.matcher(line), call = CALL.matcher(line);
        if (made.matches()) {
            end(made.group(1));
            runs.put(made.group(1), new EdgeRun());
        } else if (call.matches() && runs.containsKey(call.group(1))) {
            String args = call.group(3).replaceAll("[, ]+", " ").trim();
            runs.get(call.group(1)).add(call.group(2) + " " + args + " = " + call.group(4));
            shown.add(call.group(2));
        } else if (!line.isBlank()) {
            faults.add("neither a new object nor a call of one with its answer: " + line);
        }
    }

    private void end(String name) {
        EdgeRun run = runs.remove(name);
        if (run == null) return;
        faults.addAll(run.faults());
        answers += run.size();
    }

    private void lookForGaps() {
        for (Method m : GalleryWatch.class.getDeclaredMethods()) {
            if (Modifier.isPublic(m.getModifiers()) && !shown.contains(m.getName())) {
                faults.add("no call of " + m.getName() + " is shown");
            }
        }
    }

    /** What is shown of src/test/edges has to stand there, where EdgeTest runs it. */
    private void readEdges(String block) throws IOException {
        StringBuilder all = new StringBuilder("\n");
        try (Stream<Path> files = Files.list(Path.of("src/test/edges"))) {
            for (Path file : files.sorted().toList()) all.append(Files.readString(file));
        }
        block.lines().filter(line -> !line.isBlank()).forEach(line -> {
            if (all.indexOf("\n" + line + "\n") < 0) faults.add("src/test/edges has no line: " + line);
        });
    }

    private void weigh(String text) {
        Set<Object> met = Collections.newSetFromMap(new IdentityHashMap<>());
        int parts = weigh(new GalleryWatch(), met);
        String told = String.format(Locale.ROOT, "%d objects and arrays with %,d fields and elements", met.size(), parts);
        if (!text.replaceAll("\\s+", " ").contains(told)) faults.add("it does not say that a new object is " + told);
    }

    /** How many fields and elements an object and all that hangs on it have. */
    private static int weigh(Object x, Set<Object> met) {
        if (x == null || !met.add(x)) return 0;
        int parts = 0;
        if (x.getClass().isArray()) {
            for (int i = 0; i < Array.getLength(x); i++) parts += 1 + (x instanceof Object[] a ? weigh(a[i], met) : 0);
            return parts;
        }
        for (Field f : x.getClass().getDeclaredFields()) {
            if (Modifier.isStatic(f.getModifiers())) continue;
            parts += 1 + (f.getType().isPrimitive() ? 0 : weigh(valueOf(f, x), met));
        }
        return parts;
    }

    private static Object valueOf(Field f, Object x) {
        f.setAccessible(true);
        try {
            return f.get(x);
        } catch (IllegalAccessException e) {
            throw new IllegalStateException(e);
        }
    }
}
