import java.util.Map;
import java.util.Random;
import java.util.TreeMap;

/** Random runs of calls (the same each time) against SlowGallery, with all refusals met. */
public final class ModelTest {
    private static final int[] ODD = {
        -1, -2, 5, 6, 7, 10, 11, 14, 15, 31, 32, 99, 100, 101, 20, 400, 16384, 1 << 30,
        Integer.MIN_VALUE, Integer.MAX_VALUE, Integer.MIN_VALUE + 1, -2000000005};
    private static final String[] NAMES = {
        "room", "wall", "isWall", "sight", "post", "aim", "reach", "move", "lamp", "drop", "about",
        "isOf", "undo", "sees", "region", "watchers", "blind", "seen", "spare", "fewest", "choose",
        "many", "only", "sneak", "way", "hides", "tree", "row", "forge", "check", "count"};
    /** Which answers each call must have been seen to give: Bad, No, Full, noNe, Value. */
    private static final String[] DUE = {
        "BV", "BNV", "BV", "BV", "BFNV", "BNV", "BNV", "BNV", "BNV", "NV", "BeV",
        "BV", "NV", "BV", "BV", "BV", "BeV", "BV", "BNV", "eV", "eV",
        "V", "eV", "BeV", "BeV", "V", "BFNV", "BNeV", "BNV", "NV", "BV"};

    private final Random random;
    private final Map<String, Integer> met;
    private GalleryWatch fast = new GalleryWatch();
    private SlowGallery slow = new SlowGallery();
    private final StringBuilder story = new StringBuilder();
    private final int[] args = new int[3];

    private ModelTest(long seed, Map<String, Integer> met) {
        random = new Random(seed);
        this.met = met;
    }

    public static void main(String[] unused) {
        Map<String, Integer> met = new TreeMap<>();
        int wrong = 0;
        for (long seed = 1; seed <= 2500; seed++) {
            if (!new ModelTest(seed, met).run((int) (seed % 5))) wrong++;
        }
        for (int call = 0; call < NAMES.length; call++) {
            for (char kind : DUE[call].toCharArray()) {
                if (met.getOrDefault(NAMES[call] + kind, 0) < 20) {
                    System.out.println(NAMES[call] + " hardly ever answered " + kind);
                    wrong++;
                }
            }
        }
        System.out.println(wrong == 0 ? "the model agrees" : wrong + " runs or answers are wrong");
        if (wrong != 0) System.exit(1);
    }

    private boolean run(int style) {
        int calls = style == 4 ? 512 : 120;
        if (style != 0) begin(style);
        for (int i = 0; i < calls; i++) {
            int call = pick(style);
            if (!agree(call)) return false;
        }
        return true;
    }

    /** Rooms that are worth asking about: walls in them, and posts that see much of them. */
    private void begin(int style) {
        int side = style == 1 ? 4 : 10, least = style == 3 ? 7 : 1;
        both(0, least + random.nextInt(side - least + 1), least + random.nextInt(side - least + 1), 0);
        int cells = slow.count(0);
        // Many pillars hide the cells from each other, so that large trees are needed.
        for (int i = random.nextInt(1 + cells / (style == 3 ? 3 : 5)); i > 0; i--) {
            int cell = random.nextInt(cells);
            both(1, cell, style != 3 && random.nextInt(6) == 0 ? random.nextInt(cells) : cell, 1);
        }
        for (int i = random.nextInt(style == 3 ? 30 : 9); i > 0; i--) {
            both(4, random.nextInt(cells), random.nextInt(3) == 0 ? random.nextInt(5) : 0, 0);
        }
    }

    private int pick(int style) {
        int at = random.nextInt(100);
        if (at < 1) return 0;
        if (at < 25) return 1 + random.nextInt(12);
        if (at < 28) return 12;
        if (at < 36) return 26;
        if (at < 56) return 27 + random.nextInt(3);
        int call = random.nextInt(NAMES.length);
        return call == 0 && style != 0 ? 30 : call;
    }

    private boolean agree(int call) {
        int cells = slow.count(0), posts = Math.max(1, slow.count(2)), rows = Math.max(1, slow.count(4));
        int cell = random.nextInt(cells), other = random.nextInt(cells), post = random.nextInt(posts);
        switch (NAMES[call]) {
            case "room": give(1 + random.nextInt(10), 1 + random.nextInt(10), 0); break;
            case "wall": give(cell, random.nextBoolean() ? cell : other, random.nextInt(2)); break;
            case "isWall": case "watchers": give(cell, 0, 0); break;
            case "sight": case "sneak": give(cell, other, 0); break;
            case "post": give(cell, random.nextInt(5), 0); break;
            case "aim": give(post, direction(), direction()); break;
            case "reach": give(post, 1 + random.nextInt(9), 0); break;
            case "move": case "sees": give(post, cell, 0); break;
            case "lamp": give(post, random.nextInt(2), 0); break;
            case "about": give(post, random.nextInt(6), 0); break;
            case "isOf": give(post, random.nextInt(5), 0); break;
            case "region": give(post, 0, 0); break;
            case "blind": case "seen": case "spare": give(set(), 0, 0); break;
            case "way": give(cell, other, random.nextInt(1 + random.nextInt(12))); break;
            case "tree": give(random.nextInt(7), 0, 0); break;
            case "row": give(random.nextInt(rows), random.nextInt(4), 0); break;
            case "forge": give(random.nextInt(rows), cell, 0); break;
            case "count": give(random.nextInt(7), 0, 0); break;
            default: give(0, 0, 0);
        }
        if (random.nextInt(8) == 0) args[random.nextInt(3)] = ODD[random.nextInt(ODD.length)];
        return both(call, args[0], args[1], args[2]);
    }

    private void give(int a, int b, int c) {
        args[0] = a;
        args[1] = b;
        args[2] = c;
    }

    private int direction() {
        int size = random.nextBoolean() ? 2 : 9;
        return 20 * (random.nextInt(2 * size + 1) - size + 10) + random.nextInt(2 * size + 1) - size + 10;
    }

    private int set() {
        int all = (1 << slow.count(2)) - 1;
        return random.nextInt(3) == 0 ? all : random.nextInt(all + 1);
    }

    private boolean both(int call, int a, int b, int c) {
        String told = NAMES[call] + "(" + a + ", " + b + ", " + c + ")";
        int due = ask(slow, call, a, b, c);
        int got = ask(fast, call, a, b, c);
        met.merge(NAMES[call] + kindOf(due), 1, Integer::sum);
        story.append(told).append(" = ").append(due).append('\n');
        if (got == due) return true;
        System.out.println(story + "the last one answered " + got);
        return false;
    }

    private static char kindOf(int answer) {
        return switch (answer) {
            case SlowGallery.BAD -> 'B';
            case SlowGallery.NO -> 'N';
            case SlowGallery.FULL -> 'F';
            case SlowGallery.NONE -> 'e';
            default -> 'V';
        };
    }

    private static int ask(GalleryWatch x, int call, int a, int b, int c) {
        return switch (NAMES[call]) {
            case "room" -> x.room(a, b);
            case "wall" -> x.wall(a, b, c);
            case "isWall" -> x.isWall(a);
            case "sight" -> x.sight(a, b);
            case "post" -> x.post(a, b);
            case "aim" -> x.aim(a, b, c);
            case "reach" -> x.reach(a, b);
            case "move" -> x.move(a, b);
            case "lamp" -> x.lamp(a, b);
            case "drop" -> x.drop();
            case "about" -> x.about(a, b);
            case "isOf" -> x.isOf(a, b);
            case "undo" -> x.undo();
            case "sees" -> x.sees(a, b);
            case "region" -> x.region(a);
            case "watchers" -> x.watchers(a);
            case "blind" -> x.blind(a);
            case "seen" -> x.seen(a);
            case "spare" -> x.spare(a);
            case "fewest" -> x.fewest();
            case "choose" -> x.choose();
            case "many" -> x.many();
            case "only" -> x.only();
            case "sneak" -> x.sneak(a, b);
            case "way" -> x.way(a, b, c);
            case "hides" -> x.hides();
            case "tree" -> x.tree(a);
            case "row" -> x.row(a, b);
            case "forge" -> x.forge(a, b);
            case "check" -> x.check();
            default -> x.count(a);
        };
    }

    private static int ask(SlowGallery x, int call, int a, int b, int c) {
        return switch (NAMES[call]) {
            case "room" -> x.room(a, b);
            case "wall" -> x.wall(a, b, c);
            case "isWall" -> x.isWall(a);
            case "sight" -> x.sight(a, b);
            case "post" -> x.post(a, b);
            case "aim" -> x.aim(a, b, c);
            case "reach" -> x.reach(a, b);
            case "move" -> x.move(a, b);
            case "lamp" -> x.lamp(a, b);
            case "drop" -> x.drop();
            case "about" -> x.about(a, b);
            case "isOf" -> x.isOf(a, b);
            case "undo" -> x.undo();
            case "sees" -> x.sees(a, b);
            case "region" -> x.region(a);
            case "watchers" -> x.watchers(a);
            case "blind" -> x.blind(a);
            case "seen" -> x.seen(a);
            case "spare" -> x.spare(a);
            case "fewest" -> x.fewest();
            case "choose" -> x.choose();
            case "many" -> x.many();
            case "only" -> x.only();
            case "sneak" -> x.sneak(a, b);
            case "way" -> x.way(a, b, c);
            case "hides" -> x.hides();
            case "tree" -> x.tree(a);
            case "row" -> x.row(a, b);
            case "forge" -> x.forge(a, b);
            case "check" -> x.check();
            default -> x.count(a);
        };
    }
}
