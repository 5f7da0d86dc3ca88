import java.io.IOException;
import java.nio.file.Files;
import java.nio.file.Path;
import java.util.ArrayList;
import java.util.List;
import java.util.stream.Stream;

/** The edges that the document names, sentence by sentence, as src/test/edges tells them. */
public final class EdgeTest {
    /** All runs together take a second or two: what takes so long will not end. */
    private static final long MOST_MILLISECONDS = 120_000;

    private final EdgeDoc doc;
    private final boolean[] met;
    private final List<String> faults = new ArrayList<>();
    private int sentences;
    private int answers;
    private volatile int promise;
    private volatile String sentence;
    private int runs;
    private volatile String remark;
    private EdgeRun run;

    private EdgeTest(EdgeDoc doc) {
        this.doc = doc;
        met = new boolean[doc.promises() + 1];
    }

    public static void main(String[] args) throws IOException {
        EdgeTest test = new EdgeTest(new EdgeDoc(Path.of("../shared/DOC.md")));
        List<Path> files;
        try (Stream<Path> found = Files.list(Path.of("src/test/edges"))) {
            files = found.filter(f -> f.toString().endsWith(".txt")).sorted().toList();
        }
        test.watch();
        for (Path file : files) test.read(file);
        test.lookForGaps();
        for (String fault : test.faults) System.out.println(fault);
        System.out.println(test.sentences + " sentences, " + test.answers + " answers, " + test.faults.size() + " faults");
        if (!test.faults.isEmpty()) System.exit(1);
    }

    /** A call that never ends is a fault, too, and must not keep the tests from ending. */
    private void watch() {
        Thread watch = new Thread(() -> {
            try {
                Thread.sleep(MOST_MILLISECONDS);
            } catch (InterruptedException e) {
                return;
            }
            System.out.println("promise " + promise + ", \"" + sentence + "\", " + remark + ": a call does not end");
            Runtime.getRuntime().halt(1);
        });
        watch.setDaemon(true);
        watch.start();
    }

    private void read(Path file) throws IOException {
        for (String line : Files.readAllLines(file)) {
            String text = line.trim();
            if (text.startsWith("Promise ")) {
                endSentence();
                promise = Integer.parseInt(text.substring(8, text.indexOf(':')));
            } else if (text.startsWith("\"")) {
                endSentence();
                beginSentence(text.substring(1, text.length() - 1));
            } else if (text.startsWith("- ")) {
                endRun();
                beginRun(text.substring(2));
            } else if (!text.isEmpty() && !text.startsWith("#")) {
                run.add(text);
            }
        }
        endSentence();
    }

    private void beginSentence(String quoted) {
        sentence = quoted;
        remark = "";
        runs = 0;
        sentences++;
        if (promise < met.length) met[promise] = true;
        if (!doc.quote(promise, sentence)) fault("the document has no such sentence");
    }

    private void endSentence() {
        endRun();
        if (sentence != null && runs == 0) fault("no run of calls");
        sentence = null;
    }

    private void beginRun(String about) {
        remark = about;
        runs++;
        run = new EdgeRun();
    }

    private void endRun() {
        if (run == null) return;
        if (run.size() == 0) fault("no calls");
        for (String fault : run.faults()) fault(fault);
        answers += run.size();
        run = null;
    }

    private void fault(String what) {
        faults.add("promise " + promise + ", \"" + sentence + "\", " + remark + ": " + what);
    }

    private void lookForGaps() {
        for (int p = 1; p < met.length; p++) {
            if (!met[p]) faults.add("promise " + p + " has no test");
        }
        for (String left : doc.leftOut()) faults.add("no test quotes " + left);
    }
}
