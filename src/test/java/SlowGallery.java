import java.util.ArrayList;
import java.util.Arrays;
import java.util.List;

/**
 * The document once more, told as slowly and as literally as it can be, and in other ways than
 * GalleryWatch goes: fractions for lines, all sets tried, whole paths compared, trees of objects.
 */
final class SlowGallery {
    static final int BAD = -2000000001, NO = -2000000002, FULL = -2000000003, NONE = -2000000005;

    private static final class Guard implements Cloneable {
        int cell, kind, a, b, d, e, reach, lit;

        Guard copy() {
            Guard g = new Guard();
            g.cell = cell; g.kind = kind; g.a = a; g.b = b; g.d = d; g.e = e; g.reach = reach; g.lit = lit;
            return g;
        }

        boolean is(int k) {
            return switch (k) {
                case 0 -> true;
                case 1 -> kind == 1 || kind == 4;
                case 2 -> kind == 2 || kind == 3;
                case 3 -> kind == 3;
                default -> kind == 4;
            };
        }
    }

    private static final class Plan {
        int width = 1, height = 1;
        boolean[][] wall = new boolean[1][1];
        List<Guard> guards = new ArrayList<>();

        Plan copy() {
            Plan p = new Plan();
            p.width = width; p.height = height;
            p.wall = new boolean[height][];
            for (int r = 0; r < height; r++) p.wall[r] = wall[r].clone();
            for (Guard g : guards) p.guards.add(g.copy());
            return p;
        }

        boolean wallAt(int r, int c) {
            return r < 0 || c < 0 || r >= height || c >= width || wall[r][c];
        }

        boolean fits(Guard g) {
            int r = g.cell / width, c = g.cell % width;
            if (wallAt(r, c)) return false;
            if (!g.is(2)) return true;
            return wallAt(r - 1, c) || wallAt(r + 1, c) || wallAt(r, c - 1) || wallAt(r, c + 1);
        }
    }

    private static final class Node {
        int cell, above = NONE, came = NONE;
        List<Integer> way = new ArrayList<>();
        List<Node> below = new ArrayList<>();
    }

    private Plan plan = new Plan();
    private final List<Plan> kept = new ArrayList<>();
    private List<Node> nodes = null;
    private int treeFor;
    private boolean[][] lookCache;

    private int cells() { return plan.width * plan.height; }
    private boolean okCell(int c) { return c >= 0 && c < cells(); }
    private boolean okPost(int p) { return p >= 0 && p < plan.guards.size(); }
    private boolean okSet(int s) { return s >= 0 && s < (1 << plan.guards.size()); }
    private boolean open(int cell) { return !plan.wallAt(cell / plan.width, cell % plan.width); }

    private void changeTo(Plan next) {
        kept.add(plan);
        if (kept.size() > 10) kept.remove(0);
        plan = next;
        nodes = null;
        lookCache = null;
    }

    int room(int width, int height) {
        if (width < 1 || width > 10 || height < 1 || height > 10) return BAD;
        plan = new Plan();
        plan.width = width;
        plan.height = height;
        plan.wall = new boolean[height][width];
        kept.clear();
        nodes = null;
        lookCache = null;
        return width * height;
    }

    int wall(int a, int b, int on) {
        if (!okCell(a) || !okCell(b) || on < 0 || on > 1) return BAD;
        Plan next = plan.copy();
        int w = plan.width, n = 0;
        for (int cell = 0; cell < cells(); cell++) {
            boolean rowIn = (cell / w - a / w) * (cell / w - b / w) <= 0;
            boolean columnIn = (cell % w - a % w) * (cell % w - b % w) <= 0;
            if (rowIn && columnIn) {
                if (next.wall[cell / w][cell % w] != (on == 1)) n++;
                next.wall[cell / w][cell % w] = on == 1;
            }
        }
        for (Guard g : next.guards) if (!next.fits(g)) return NO;
        changeTo(next);
        return n;
    }

    int isWall(int cell) { return !okCell(cell) ? BAD : open(cell) ? 0 : 1; }

    int sight(int a, int b) {
        if (!okCell(a) || !okCell(b)) return BAD;
        return inSight(a, b) ? 1 : 0;
    }

    private boolean inSight(int a, int b) {
        if (!open(a) || !open(b)) return false;
        for (int cell = 0; cell < cells(); cell++) {
            if (!open(cell) && crosses(a, b, cell)) return false;
        }
        return true;
    }

    /** Whether some t in 0 .. 1 puts a + t (b - a) strictly inside of the cell. */
    private boolean crosses(int a, int b, int cell) {
        int w = plan.width;
        long[] start = {2 * (a % w) + 1, 2 * (a / w) + 1};
        long[] end = {2 * (b % w) + 1, 2 * (b / w) + 1};
        long[] corner = {2 * (cell % w), 2 * (cell / w)};
        List<long[]> above = new ArrayList<>(), below = new ArrayList<>();
        for (int axis = 0; axis < 2; axis++) {
            long step = end[axis] - start[axis];
            long near = corner[axis] - start[axis], far = near + 2;
            if (step == 0) {
                if (near >= 0 || far <= 0) return false;
            } else if (step > 0) {
                above.add(new long[] {near, step});
                below.add(new long[] {far, step});
            } else {
                above.add(new long[] {-far, -step});
                below.add(new long[] {-near, -step});
            }
        }
        for (long[] lo : above) {
            if (lo[0] >= lo[1]) return false;
            for (long[] hi : below) if (lo[0] * hi[1] >= hi[0] * lo[1]) return false;
        }
        for (long[] hi : below) if (hi[0] <= 0) return false;
        return true;
    }

    int post(int cell, int kind) {
        if (!okCell(cell) || kind < 0 || kind > 4) return BAD;
        Guard g = new Guard();
        g.cell = cell; g.kind = kind; g.a = 1; g.b = 0; g.d = 0; g.e = 1; g.reach = 9; g.lit = 1;
        if (!plan.fits(g)) return NO;
        if (plan.guards.size() == 14) return FULL;
        Plan next = plan.copy();
        next.guards.add(g);
        changeTo(next);
        return plan.guards.size() - 1;
    }

    private static int[] decode(int told) {
        for (int a = -9; a <= 9; a++)
            for (int b = -9; b <= 9; b++)
                if ((a != 0 || b != 0) && 20 * (a + 10) + b + 10 == told) return new int[] {a, b};
        return null;
    }

    int aim(int post, int from, int to) {
        int[] f = decode(from), t = decode(to);
        if (!okPost(post) || f == null || t == null) return BAD;
        int turn = f[0] * t[1] - f[1] * t[0];
        if (turn < 0 || turn == 0 && f[0] * t[0] + f[1] * t[1] <= 0) return BAD;
        if (!plan.guards.get(post).is(1)) return NO;
        Plan next = plan.copy();
        Guard g = next.guards.get(post);
        g.a = f[0]; g.b = f[1]; g.d = t[0]; g.e = t[1];
        changeTo(next);
        return 0;
    }

    int reach(int post, int n) {
        if (!okPost(post) || n < 1 || n > 9) return BAD;
        Guard old = plan.guards.get(post);
        if (!old.is(4)) return NO;
        Plan next = plan.copy();
        next.guards.get(post).reach = n;
        changeTo(next);
        return old.reach;
    }

    int move(int post, int cell) {
        if (!okPost(post) || !okCell(cell)) return BAD;
        Plan next = plan.copy();
        Guard g = next.guards.get(post);
        int old = g.cell;
        g.cell = cell;
        if (!next.fits(g)) return NO;
        changeTo(next);
        return old;
    }

    int lamp(int post, int lit) {
        if (!okPost(post) || lit < 0 || lit > 1) return BAD;
        Guard old = plan.guards.get(post);
        if (!old.is(3)) return NO;
        Plan next = plan.copy();
        next.guards.get(post).lit = lit;
        changeTo(next);
        return old.lit;
    }

    int drop() {
        if (plan.guards.isEmpty()) return NO;
        Plan next = plan.copy();
        int number = next.guards.size() - 1;
        next.guards.remove(number);
        changeTo(next);
        return number;
    }

    int about(int post, int what) {
        if (!okPost(post) || what < 0 || what > 5) return BAD;
        Guard g = plan.guards.get(post);
        return switch (what) {
            case 0 -> g.cell;
            case 1 -> g.kind;
            case 2 -> g.is(1) ? 20 * (g.a + 10) + g.b + 10 : NONE;
            case 3 -> g.is(1) ? 20 * (g.d + 10) + g.e + 10 : NONE;
            case 4 -> g.is(4) ? g.reach : NONE;
            default -> g.is(3) ? g.lit : NONE;
        };
    }

    int isOf(int post, int kind) {
        if (!okPost(post) || kind < 0 || kind > 4) return BAD;
        return plan.guards.get(post).is(kind) ? 1 : 0;
    }

    int undo() {
        if (kept.isEmpty()) return NO;
        plan = kept.remove(kept.size() - 1);
        nodes = null;
        lookCache = null;
        return kept.size();
    }

    private boolean looks(int post, int cell) {
        if (lookCache == null) {
            lookCache = new boolean[plan.guards.size()][cells()];
            for (int p = 0; p < plan.guards.size(); p++)
                for (int c = 0; c < cells(); c++) lookCache[p][c] = looksAt(plan.guards.get(p), c);
        }
        return lookCache[post][cell];
    }

    private boolean looksAt(Guard g, int cell) {
        if (!inSight(g.cell, cell)) return false;
        int x = cell % plan.width - g.cell % plan.width, y = cell / plan.width - g.cell / plan.width;
        if (g.is(3) && g.lit == 0) return false;
        if (g.is(1) && cell != g.cell) {
            if (g.a * y - g.b * x < 0 || x * g.e - y * g.d < 0) return false;
            if (g.a * g.e - g.b * g.d == 0) {
                if (g.a * y - g.b * x != 0 || x * g.e - y * g.d != 0 || g.a * x + g.b * y <= 0) return false;
            }
        }
        return !g.is(4) || x <= g.reach && -x <= g.reach && y <= g.reach && -y <= g.reach;
    }

    int sees(int post, int cell) {
        if (!okPost(post) || !okCell(cell)) return BAD;
        return looks(post, cell) ? 1 : 0;
    }

    int region(int post) {
        if (!okPost(post)) return BAD;
        int n = 0;
        for (int c = 0; c < cells(); c++) if (looks(post, c)) n++;
        return n;
    }

    int watchers(int cell) {
        if (!okCell(cell)) return BAD;
        int set = 0;
        for (int p = 0; p < plan.guards.size(); p++) if (looks(p, cell)) set += 1 << p;
        return set;
    }

    int blind(int set) {
        if (!okSet(set)) return BAD;
        for (int c = 0; c < cells(); c++) if (open(c) && (watchers(c) & set) == 0) return c;
        return NONE;
    }

    int seen(int set) {
        if (!okSet(set)) return BAD;
        int n = 0;
        for (int c = 0; c < cells(); c++) if ((watchers(c) & set) != 0) n++;
        return n;
    }

    int spare(int set) {
        if (!okSet(set)) return BAD;
        if (blind(set) != NONE) return NO;
        int spared = 0;
        for (int p = 0; p < 14; p++) if ((set >> p & 1) == 1 && blind(set - (1 << p)) == NONE) spared += 1 << p;
        return spared;
    }

    /** All sets that watch, found without any cleverness. */
    private List<Integer> watching() {
        List<Integer> needs = new ArrayList<>();
        for (int c = 0; c < cells(); c++) if (open(c) && !needs.contains(watchers(c))) needs.add(watchers(c));
        List<Integer> sets = new ArrayList<>();
        for (int s = 0; s < 1 << plan.guards.size(); s++) {
            boolean all = true;
            for (int need : needs) all &= (need & s) != 0;
            if (all) sets.add(s);
        }
        return sets;
    }

    private static int[] numbers(int set) {
        int[] n = new int[Integer.bitCount(set)];
        int at = 0;
        for (int p = 0; p < 14; p++) if ((set >> p & 1) == 1) n[at++] = p;
        return n;
    }

    private List<Integer> smallest() {
        List<Integer> all = watching(), least = new ArrayList<>();
        int few = 99;
        for (int s : all) few = Math.min(few, Integer.bitCount(s));
        for (int s : all) if (Integer.bitCount(s) == few) least.add(s);
        least.sort((s, t) -> Arrays.compare(numbers(s), numbers(t)));
        return least;
    }

    int fewest() { List<Integer> s = smallest(); return s.isEmpty() ? NONE : Integer.bitCount(s.get(0)); }
    int choose() { List<Integer> s = smallest(); return s.isEmpty() ? NONE : s.get(0); }
    int many() { return smallest().size(); }

    int only() {
        List<Integer> all = watching();
        if (all.isEmpty()) return NONE;
        int common = -1;
        for (int s : all) common &= s;
        return common;
    }

    private boolean unseen(int cell) { return open(cell) && watchers(cell) == 0; }

    private boolean neighbours(int a, int b) {
        int w = plan.width;
        return Math.abs(a / w - b / w) + Math.abs(a % w - b % w) == 1;
    }

    /** The first of the shortest paths, grown from its start with whole paths compared. */
    private List<Integer> path(int from, int to) {
        if (!unseen(from) || !unseen(to)) return null;
        List<List<Integer>> best = new ArrayList<>();
        for (int c = 0; c < cells(); c++) best.add(null);
        best.set(from, new ArrayList<>(List.of(from)));
        for (boolean more = true; more; ) {
            more = false;
            List<List<Integer>> next = new ArrayList<>(best);
            for (int c = 0; c < cells(); c++) {
                if (best.get(c) != null || !unseen(c)) continue;
                for (int b = 0; b < cells(); b++) {
                    if (best.get(b) == null || !neighbours(b, c)) continue;
                    List<Integer> path = new ArrayList<>(best.get(b));
                    path.add(c);
                    List<Integer> had = next.get(c);
                    if (had == null || before(path, had)) next.set(c, path);
                    more = true;
                }
            }
            best = next;
        }
        return best.get(to);
    }

    private static boolean before(List<Integer> p, List<Integer> q) {
        for (int i = 0; i < p.size(); i++) if (!p.get(i).equals(q.get(i))) return p.get(i) < q.get(i);
        return false;
    }

    int sneak(int from, int to) {
        if (!okCell(from) || !okCell(to)) return BAD;
        List<Integer> p = path(from, to);
        return p == null ? NONE : p.size() - 1;
    }

    int way(int from, int to, int i) {
        if (!okCell(from) || !okCell(to) || i < 0) return BAD;
        List<Integer> p = path(from, to);
        return p == null || i >= p.size() ? NONE : p.get(i);
    }

    int hides() {
        int[] name = new int[cells()];
        for (int c = 0; c < cells(); c++) name[c] = c;
        for (int round = 0; round < cells(); round++)
            for (int a = 0; a < cells(); a++)
                for (int b : new int[] {a + 1, a + plan.width})
                    if (b < cells() && neighbours(a, b) && unseen(a) && unseen(b)) {
                        int least = Math.min(name[a], name[b]);
                        name[a] = least;
                        name[b] = least;
                    }
        int n = 0;
        for (int c = 0; c < cells(); c++) if (unseen(c) && name[c] == c) n++;
        return n;
    }

    int tree(int n) {
        if (n < 0 || n > 6) return BAD;
        int few = fewest();
        if (few != NONE && few <= n) return NO;
        List<Node> made = new ArrayList<>();
        if (!plant(made, new Node(), n)) return FULL;
        nodes = made;
        treeFor = n;
        return made.size();
    }

    private boolean plant(List<Node> made, Node node, int n) {
        if (made.size() == 600) return false;
        int number = made.size();
        made.add(node);
        for (int c = cells() - 1; c >= 0; c--) if (right(c, node.way)) node.cell = c;
        if (node.way.size() == n) return true;
        for (int p : numbers(watchers(node.cell))) {
            Node child = new Node();
            child.above = number;
            child.came = p;
            child.way.addAll(node.way);
            child.way.add(p);
            node.below.add(child);
            if (!plant(made, child, n)) return false;
        }
        return true;
    }

    private boolean right(int cell, List<Integer> way) {
        if (!open(cell)) return false;
        for (int p : way) if (looks(p, cell)) return false;
        return true;
    }

    int row(int i, int what) {
        if (nodes == null) return NO;
        if (i < 0 || i >= nodes.size() || what < 0 || what > 3) return BAD;
        Node node = nodes.get(i);
        return switch (what) {
            case 0 -> node.cell;
            case 1 -> node.above;
            case 2 -> node.came;
            default -> node.below.size();
        };
    }

    int forge(int i, int cell) {
        if (nodes == null) return NO;
        if (i < 0 || i >= nodes.size() || !okCell(cell)) return BAD;
        int old = nodes.get(i).cell;
        nodes.get(i).cell = cell;
        return old;
    }

    int check() {
        if (nodes == null) return NO;
        for (int i = 0; i < nodes.size(); i++) {
            Node node = nodes.get(i);
            if (!right(node.cell, node.way)) return 1 + i;
            if (node.way.size() == treeFor) continue;
            List<Integer> due = new ArrayList<>(), are = new ArrayList<>();
            for (int p : numbers(watchers(node.cell))) if (!node.way.contains(p)) due.add(p);
            for (Node child : node.below) are.add(child.came);
            if (!due.equals(are)) return 1 + i;
        }
        return 0;
    }

    int count(int what) {
        int n = 0;
        switch (what) {
            case 0: return cells();
            case 1:
                for (int c = 0; c < cells(); c++) if (open(c)) n++;
                return n;
            case 2: return plan.guards.size();
            case 3: return kept.size();
            case 4: return nodes == null ? 0 : nodes.size();
            case 5:
                for (int c = 0; c < cells(); c++) if (unseen(c)) n++;
                return n;
            case 6: return plan.width;
            default: return BAD;
        }
    }
}
