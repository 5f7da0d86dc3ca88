import java.lang.reflect.Constructor;
import java.lang.reflect.Field;
import java.lang.reflect.Method;
import java.lang.reflect.Modifier;
import java.nio.file.Files;
import java.nio.file.Path;
import java.util.ArrayList;
import java.util.Arrays;
import java.util.List;
import java.util.Map;
import java.util.Set;
import java.util.TreeMap;
import java.util.TreeSet;
import java.util.regex.Matcher;
import java.util.regex.Pattern;

/** The public face, and what rules of LANGUAGE.md can be told from the file and its classes. */
public final class LanguageTest {
    private static final String FACE = "GalleryWatch() room/2 wall/3 isWall/1 sight/2 post/2 aim/3 reach/2 "
        + "move/2 lamp/2 drop/0 about/2 isOf/2 undo/0 sees/2 region/1 watchers/1 blind/1 seen/1 spare/1 "
        + "fewest/0 choose/0 many/0 only/0 sneak/2 way/3 hides/0 tree/1 row/2 forge/2 check/0 count/1";
    private static int wrong = 0;

    public static void main(String[] args) throws Exception {
        String source = Files.readString(Path.of("src/main/java/GalleryWatch.java"));
        face();
        order(Files.readString(Path.of("../shared/DOC.md")), source);
        classes();
        text(bare(source));
        System.out.println(wrong == 0 ? "the rules are kept" : wrong + " rules are not kept");
        if (wrong != 0) System.exit(1);
    }

    private static void rule(boolean kept, String what) {
        if (!kept) {
            wrong++;
            System.out.println("not kept: " + what);
        }
    }

    private static void face() throws Exception {
        Class<?> c = GalleryWatch.class;
        rule(Modifier.isPublic(c.getModifiers()) && Modifier.isFinal(c.getModifiers()), "public and final");
        Set<String> due = new TreeSet<>(Arrays.asList(FACE.split(" ")));
        Set<String> are = new TreeSet<>();
        for (Constructor<?> k : c.getDeclaredConstructors()) {
            are.add("GalleryWatch" + (k.getParameterCount() == 0 ? "()" : "/" + k.getParameterCount()));
        }
        for (Method m : c.getDeclaredMethods()) {
            if (Modifier.isPrivate(m.getModifiers())) continue;
            are.add(m.getName() + "/" + m.getParameterCount());
            rule(Modifier.isPublic(m.getModifiers()) && !Modifier.isStatic(m.getModifiers()), m + " is public");
            rule(m.getReturnType() == int.class, m + " answers int");
            for (Class<?> p : m.getParameterTypes()) rule(p == int.class, m + " takes ints");
        }
        rule(due.equals(are), "the face is " + due + ", not " + are);
        String constants = "";
        for (Field f : c.getDeclaredFields()) {
            if (Modifier.isStatic(f.getModifiers())) rule(Modifier.isFinal(f.getModifiers()), f + " is final");
            if (Modifier.isPrivate(f.getModifiers())) continue;
            rule(Modifier.isPublic(f.getModifiers()) && Modifier.isStatic(f.getModifiers()), f + " is a constant");
            constants += f.getName() + "=" + f.getInt(null) + " ";
        }
        rule(constants.equals("BAD=-2000000001 NO=-2000000002 FULL=-2000000003 NONE=-2000000005 "), constants);
    }

    /** The document's face, with the headings that it puts ahead of some calls, line by line. */
    private static void order(String doc, String source) {
        Map<String, String> headings = new TreeMap<>();
        Matcher said = Pattern.compile("(?m)^Ahead of the calls `(\\w+)`.* says: (---- .*)\\.$").matcher(doc);
        while (said.find()) headings.put(said.group(1), said.group(2));
        List<String> due = new ArrayList<>();
        Matcher lines = Pattern.compile("(?m)^ {4}public .*?(\\w*)(\\(.*\\))?;$").matcher(doc);
        while (lines.find()) {
            if (headings.containsKey(lines.group(1))) due.add("// " + headings.get(lines.group(1)));
            due.add(lines.group().trim().replace(");", ") {"));
        }
        List<String> are = source.lines().map(String::trim)
            .filter(line -> line.startsWith("public ") && !line.contains(" class ") || line.startsWith("// ----")).toList();
        rule(headings.size() == 6 && due.size() == 39, "the document's face was found");
        rule(due.equals(are), "the face is " + due + ", not " + are);
    }

    private static void classes() {
        Set<String> face = new TreeSet<>();
        for (String f : FACE.split(" ")) face.add(f.replaceAll("[/(].*", ""));
        List<Class<?>> all = new ArrayList<>(List.of(GalleryWatch.class.getDeclaredClasses()));
        rule(all.size() < 12, "at most some twelve classes");
        for (Class<?> c : all) {
            int is = c.getModifiers();
            rule(Modifier.isStatic(is) && !Modifier.isPublic(is) && !Modifier.isProtected(is), c + " is static and inside");
            rule(c.getDeclaredFields().length <= 20, c + " has at most some twenty fields");
        }
        all.add(GalleryWatch.class);
        for (Class<?> c : all) {
            for (Method m : c.getDeclaredMethods()) {
                rule(m.getParameterCount() <= 7, m + " has at most seven parameters");
                boolean own = c != GalleryWatch.class || Modifier.isPrivate(m.getModifiers());
                rule(!own || !face.contains(m.getName()), m + " bears the name of a public method");
            }
        }
    }

    /** The file without its comments; it has no texts that could look like one. */
    private static String bare(String source) {
        rule(source.indexOf('"') < 0, "the file has no texts");
        return source.replaceAll("(?s)/\\*.*?\\*/", " ").replaceAll("//[^\n]*", " ");
    }

    private static void text(String source) {
        for (String word : "throw throws try catch synchronized assert package double float NaN Random Thread "
                .concat("Object equals hashCode toString String Integer.parseInt Optional Stream var while do").split(" ")) {
            rule(!Pattern.compile("\\b" + Pattern.quote(word) + "\\b").matcher(source).find(), "no '" + word + "'");
        }
        rule(!source.contains("->") && !source.contains("::"), "no lambda, no method reference");
        Matcher imports = Pattern.compile("import ([^;]*);").matcher(source);
        while (imports.find()) rule(imports.group(1).equals("java.util.Arrays"), "import " + imports.group(1));
        Set<String> library = Set.of("Arrays.fill", "System.arraycopy", "Math.abs", "Math.max", "Math.min", "Integer.bitCount");
        Matcher calls = Pattern.compile("(?<![\\w.])([A-Z][a-z]\\w*\\.\\w+)\\(").matcher(source);
        while (calls.find()) rule(library.contains(calls.group(1)), "the library has no " + calls.group(1));
        Matcher methods = Pattern.compile("(?ms)^( {4}| {8})[^\\s}@][^\n]*\\) \\{\n(.*?)^\\1\\}$").matcher(source);
        int found = 0;
        while (methods.find()) {
            found++;
            long lines = methods.group(2).lines().count();
            rule(lines <= 60, "a method of " + lines + " lines: " + methods.group().lines().findFirst().get());
        }
        rule(found > 60, "the methods were looked at");
    }
}
