import java.lang.reflect.InvocationTargetException;
import java.lang.reflect.Method;
import java.util.ArrayList;
import java.util.Arrays;
import java.util.List;
import java.util.Map;
import java.util.TreeMap;

/**
 * A run of calls on one new object, each with the answer that is due, told in the words of
 * src/test/edges (how, stands in README.md). A refused call must not only answer so: two objects,
 * one with it and one without, have to look alike afterwards, as far as undo() goes back.
 */
final class EdgeRun {
    private static final int MOST_CALLS = 512;
    private static final Map<String, Integer> WORDS = Map.ofEntries(
        Map.entry("BAD", -2000000001), Map.entry("NO", -2000000002), Map.entry("FULL", -2000000003),
        Map.entry("NONE", -2000000005), Map.entry("MIN", Integer.MIN_VALUE), Map.entry("MAX", Integer.MAX_VALUE),
        Map.entry("STOOL", 0), Map.entry("WEDGE", 1), Map.entry("DOOR", 2), Map.entry("LAMP", 3), Map.entry("SLIT", 4));
    private static final Map<String, Method> METHODS = methods();

    private record Step(String name, int[] args, int due) {
        @Override
        public String toString() {
            List<String> told = new ArrayList<>();
            for (int arg : args) told.add(String.valueOf(arg));
            return name + "(" + String.join(", ", told) + ")";
        }

        boolean isRefused() {
            return due == WORDS.get("BAD") || due == WORDS.get("NO") || due == WORDS.get("FULL");
        }

        String answerOf(GalleryWatch x) {
            Object[] values = new Object[args.length];
            for (int i = 0; i < args.length; i++) values[i] = args[i];
            try {
                return String.valueOf(METHODS.get(name).invoke(x, values));
            } catch (InvocationTargetException e) {
                return String.valueOf(e.getCause());
            } catch (IllegalAccessException e) {
                throw new IllegalStateException(e);
            }
        }
    }

    private final List<Step> steps = new ArrayList<>();

    private static Map<String, Method> methods() {
        Map<String, Method> found = new TreeMap<>();
        for (Method m : GalleryWatch.class.getDeclaredMethods()) found.put(m.getName(), m);
        return found;
    }

    int size() {
        return steps.size();
    }

    /** Adds the calls of a line: "name arg arg = answer; ..", "times n: ..", "plan ..#/.#.". */
    void add(String line) {
        if (line.startsWith("times ")) {
            int colon = line.indexOf(':');
            for (int i = number(line.substring(6, colon)); i > 0; i--) add(line.substring(colon + 1).trim());
            return;
        }
        for (String call : line.split(";")) {
            String[] sides = call.trim().split(" *= *");
            String[] words = sides[0].split(" +");
            if (words[0].equals("plan")) {
                addPlan(words[1].split("/"));
            } else if (sides.length == 2) {
                addCalls(words, alternatives(sides[1]));
            } else {
                throw new IllegalArgumentException("no answer is due: " + call);
            }
        }
    }

    private void addPlan(String[] rows) {
        int width = rows[0].length();
        steps.add(step("room", new int[] {width, rows.length}, width * rows.length));
        for (int cell = 0; cell < width * rows.length; cell++) {
            if (rows[cell / width].charAt(cell % width) == '#') steps.add(step("wall", new int[] {cell, cell, 1}, 1));
        }
    }

    /** A call for each choice among the alternatives of its arguments, the first one's slowest. */
    private void addCalls(String[] words, int[] due) {
        List<int[]> calls = new ArrayList<>(List.of(new int[0]));
        for (int i = 1; i < words.length; i++) {
            List<int[]> longer = new ArrayList<>();
            for (int[] args : calls) {
                for (int value : alternatives(words[i])) {
                    int[] more = Arrays.copyOf(args, i);
                    more[i - 1] = value;
                    longer.add(more);
                }
            }
            calls = longer;
        }
        if (due.length > 1 && calls.size() > 1 && due.length != calls.size()) {
            throw new IllegalArgumentException(calls.size() + " calls, " + due.length + " answers: " + String.join(" ", words));
        }
        for (int i = 0; i < Math.max(calls.size(), due.length); i++) {
            steps.add(step(words[0], calls.get(calls.size() > 1 ? i : 0), due[due.length > 1 ? i : 0]));
        }
    }

    private static Step step(String name, int[] args, int due) {
        Method m = METHODS.get(name);
        if (m == null || m.getParameterCount() != args.length) {
            throw new IllegalArgumentException("no call " + name + " with " + args.length + " arguments");
        }
        return new Step(name, args, due);
    }

    private static int[] alternatives(String word) {
        List<Integer> all = new ArrayList<>();
        for (String one : word.split("\\|")) {
            String[] ends = one.split("\\.\\.");
            int from = number(ends[0]), to = number(ends[ends.length - 1]);
            for (int n = from; n != to; n += from < to ? 1 : -1) all.add(n);
            all.add(to);
        }
        return all.stream().mapToInt(Integer::intValue).toArray();
    }

    /** A number, a word for one, a set of posts as {0,3}, or a direction as aim() is told it, 1:0. */
    private static int number(String word) {
        String w = word.trim();
        if (WORDS.containsKey(w)) return WORDS.get(w);
        if (w.equals("{}")) return 0;
        if (w.startsWith("{")) {
            int set = 0;
            for (String post : w.substring(1, w.length() - 1).split(",")) set |= 1 << Integer.parseInt(post);
            return set;
        }
        int colon = w.indexOf(':');
        if (colon < 0) return Integer.parseInt(w);
        return 20 * (Integer.parseInt(w.substring(0, colon)) + 10) + Integer.parseInt(w.substring(colon + 1)) + 10;
    }

    /** What is wrong with the answers, a line each. */
    List<String> faults() {
        List<String> faults = new ArrayList<>();
        if (steps.size() > MOST_CALLS) faults.add(steps.size() + " calls are more than an object is used for");
        GalleryWatch x = new GalleryWatch();
        for (int i = 0; i < steps.size(); i++) {
            Step step = steps.get(i);
            String got = step.answerOf(x);
            if (!got.equals(String.valueOf(step.due))) {
                faults.add("call " + (i + 1) + ", " + step + ": " + got + ", due is " + step.due);
            }
            if (step.isRefused()) addChanges(i, faults);
        }
        return faults;
    }

    private void addChanges(int refused, List<String> faults) {
        for (int undone = 0; undone <= 10; undone++) {
            // As many questions to each of the two, so that neither is used for too many calls.
            int questions = MOST_CALLS - refused - 1 - undone - 3;
            List<String> without = look(refused, undone, questions), with = look(refused + 1, undone, questions);
            int differs = Arrays.mismatch(without.toArray(), with.toArray());
            if (differs < 0) continue;
            faults.add("call " + (refused + 1) + ", " + steps.get(refused) + ", is refused and changes something: behind "
                + undone + " undo() " + with.get(Math.min(differs, with.size() - 1)) + ", without it "
                + without.get(Math.min(differs, without.size() - 1)));
            return;
        }
    }

    /** What a new object looks like that has had the first calls, and some undo() more. */
    private List<String> look(int calls, int undone, int most) {
        GalleryWatch x = new GalleryWatch();
        for (Step step : steps.subList(0, calls)) step.answerOf(x);
        for (int i = 0; i < undone; i++) x.undo();
        int cells = x.count(0), posts = x.count(2), rows = x.count(4);
        List<Step> questions = new ArrayList<>(List.of(question("check")));
        for (int what = 0; what < 7; what++) questions.add(question("count", what));
        for (int cell = 0; cell < cells; cell++) questions.add(question("isWall", cell));
        for (int post = 0; post < posts; post++) {
            for (int what = 0; what < 6; what++) questions.add(question("about", post, what));
        }
        for (int row = 0; row < rows; row++) {
            for (int what = 0; what < 4; what++) questions.add(question("row", row, what));
        }
        List<String> answers = new ArrayList<>();
        for (Step q : questions.subList(0, Math.max(0, Math.min(most, questions.size())))) answers.add(q + " is " + q.answerOf(x));
        return answers;
    }

    private static Step question(String name, int... args) {
        return step(name, args, 0);
    }
}
