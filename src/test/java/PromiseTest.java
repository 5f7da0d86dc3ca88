/** Each promise of the document with answers worked out by hand (but for treeSizes). */
public final class PromiseTest {
    private static final int BAD = -2000000001, NO = -2000000002, FULL = -2000000003, NONE = -2000000005;
    private static final int MIN = Integer.MIN_VALUE, MAX = Integer.MAX_VALUE;
    private static final int STOOL = 0, WEDGE = 1, DOOR = 2, LAMP = 3, SLIT = 4;
    private static int promise;
    private static int wrong = 0;

    public static void main(String[] args) {
        newObject();
        room();
        wall();
        wallAndPosts();
        isWall();
        sight();
        post();
        aim();
        reach();
        move();
        lamp();
        drop();
        about();
        isOf();
        undo();
        undoOfEachChange();
        sees();
        wedgeSees();
        region();
        watchers();
        blind();
        seen();
        spare();
        fewest();
        choose();
        many();
        only();
        noOpenCells();
        sneak();
        way();
        hides();
        tree();
        treeSizes();
        treeEnds();
        row();
        forge();
        check();
        count();
        readme();
        System.out.println(wrong == 0 ? "all promises are kept" : wrong + " answers are wrong");
        if (wrong != 0) System.exit(1);
    }

    private static void is(int got, int due) {
        if (got == due) return;
        wrong++;
        int line = new Throwable().getStackTrace()[1].getLineNumber();
        System.out.println("promise " + promise + ", line " + line + ": " + got + ", due is " + due);
    }

    private static GalleryWatch of(int width, int height) {
        GalleryWatch x = new GalleryWatch();
        x.room(width, height);
        return x;
    }

    private static void walls(GalleryWatch x, int... cells) {
        for (int cell : cells) is(x.wall(cell, cell, 1), 1);
    }

    private static void stools(GalleryWatch x, int... cells) {
        for (int cell : cells) is(x.post(cell, STOOL), x.count(2) - 1);
    }

    private static int told(int across, int down) {
        return 20 * (across + 10) + down + 10;
    }

    /** Two parts, cells 0, 1 and cells 3, 4; posts 0, 1 watch the one, post 2 the other. */
    private static GalleryWatch halves() {
        GalleryWatch x = of(5, 1);
        walls(x, 2);
        stools(x, 0, 1, 4);
        return x;
    }

    /** Three parts, cells 0, 1 (posts 0, 1), cells 3, 4 (post 2) and cell 6 (nobody). */
    private static GalleryWatch thirds() {
        GalleryWatch x = of(7, 1);
        walls(x, 2, 5);
        stools(x, 0, 1, 3);
        return x;
    }

    /** A way round a block, with posts in the corners: only opposite ones see all of it. */
    private static GalleryWatch ring() {
        GalleryWatch x = of(6, 3);
        x.wall(7, 10, 1);
        stools(x, 0, 5, 12, 17);
        return x;
    }

    private static void newObject() {
        promise = 1;
        GalleryWatch x = new GalleryWatch();
        int[] counts = {1, 1, 0, 0, 0, 1, 1};
        for (int what = 0; what < counts.length; what++) is(x.count(what), counts[what]);
        is(x.isWall(0), 0);
        is(x.isWall(1), BAD);
        is(x.undo(), NO);
        is(x.drop(), NO);
        is(x.check(), NO);
        is(x.fewest(), NONE);
        is(x.hides(), 1);
        is(x.post(0, LAMP), 0);
        is(x.fewest(), 1);
    }

    private static void room() {
        promise = 2;
        GalleryWatch x = new GalleryWatch();
        is(x.room(1, 1), 1);
        is(x.room(10, 10), 100);
        is(x.room(10, 1), 10);
        is(x.room(3, 7), 21);
        is(x.count(6), 3);
        is(x.wall(20, 20, 1), 1);
        is(x.post(0, STOOL), 0);
        is(x.tree(0), 1);
        int[] sides = {0, 11, -1, MIN, MAX, 65536};
        for (int side : sides) {
            is(x.room(side, 3), BAD);
            is(x.room(3, side), BAD);
        }
        is(x.count(0), 21);
        is(x.count(2), 1);
        is(x.count(3), 2);
        is(x.isWall(20), 1);
        is(x.count(4), 1);
        is(x.room(3, 7), 21);
        is(x.count(1), 21);
        is(x.count(2), 0);
        is(x.count(3), 0);
        is(x.count(4), 0);
        is(x.undo(), NO);
    }

    private static void wall() {
        promise = 3;
        GalleryWatch x = of(5, 5);
        is(x.wall(18, 6, 1), 9);
        is(x.wall(8, 16, 1), 0);
        is(x.wall(16, 8, 0), 9);
        is(x.wall(6, 18, 1), 9);
        is(x.count(3), 4);
        is(x.wall(12, 12, 0), 1);
        is(x.wall(6, 18, 1), 1);
        is(x.wall(0, 24, 1), 16);
        is(x.wall(0, 24, 0), 25);
        is(x.wall(4, 4, 1), 1);
        is(x.isWall(4), 1);
        is(x.isWall(5), 0);
        int kept = x.count(3);
        int[] cells = {-1, 25, MIN, MAX};
        for (int cell : cells) {
            is(x.wall(cell, 0, 1), BAD);
            is(x.wall(0, cell, 1), BAD);
        }
        is(x.wall(0, 0, 2), BAD);
        is(x.wall(0, 0, -1), BAD);
        is(x.count(3), kept);
        is(x.count(1), 24);
    }

    private static void wallAndPosts() {
        promise = 3;
        GalleryWatch x = of(3, 3);
        walls(x, 1);
        is(x.post(4, DOOR), 0);
        is(x.post(8, STOOL), 1);
        is(x.wall(1, 1, 0), NO);
        is(x.wall(0, 2, 0), NO);
        is(x.wall(4, 4, 1), NO);
        is(x.wall(0, 8, 1), NO);
        is(x.wall(8, 8, 1), NO);
        is(x.wall(8, 9, 1), BAD);
        is(x.wall(1, 1, 2), BAD);
        is(x.count(3), 3);
        is(x.isWall(1), 1);
        is(x.isWall(0), 0);
        is(x.wall(8, 8, 0), 0);
        is(x.wall(4, 4, 0), 0);
        is(x.wall(3, 3, 1), 1);
        is(x.wall(1, 1, 0), 1);
        is(x.wall(3, 3, 0), NO);
        is(x.move(0, 5), 4);
        is(x.wall(3, 3, 0), 1);
        is(x.wall(2, 2, 1), 1);
        is(x.wall(2, 2, 0), 1);
        GalleryWatch y = of(3, 3);
        walls(y, 7);
        is(y.post(4, LAMP), 0);
        is(y.lamp(0, 0), 1);
        is(y.wall(7, 7, 0), NO);
        is(y.drop(), 0);
        is(y.wall(7, 7, 0), 1);
    }

    private static void isWall() {
        promise = 4;
        GalleryWatch x = of(2, 3);
        walls(x, 5);
        is(x.isWall(5), 1);
        is(x.isWall(4), 0);
        is(x.isWall(6), BAD);
        is(x.isWall(-1), BAD);
        is(x.isWall(MIN), BAD);
        is(x.isWall(MAX), BAD);
    }

    private static void sight() {
        promise = 5;
        GalleryWatch x = of(3, 3);
        walls(x, 1, 3);
        is(x.sight(0, 4), 1);
        is(x.sight(4, 0), 1);
        is(x.sight(0, 8), 1);
        is(x.sight(0, 5), 0);
        is(x.sight(0, 7), 0);
        is(x.sight(0, 2), 0);
        is(x.sight(0, 6), 0);
        is(x.sight(2, 6), 1);
        is(x.sight(0, 0), 1);
        is(x.sight(1, 1), 0);
        is(x.sight(0, 1), 0);
        is(x.sight(1, 0), 0);
        is(x.sight(0, 9), BAD);
        is(x.sight(-1, 0), BAD);
        is(x.sight(1, MAX), BAD);
        GalleryWatch y = of(4, 2);
        walls(y, 5, 2);
        is(y.sight(0, 7), 1);
        is(y.sight(7, 0), 1);
        is(y.sight(3, 4), 0);
        walls(y, 1);
        is(y.sight(0, 7), 0);
        GalleryWatch z = of(10, 10);
        is(z.sight(0, 99), 1);
        is(z.sight(9, 90), 1);
        is(z.sight(0, 98), 1);
        walls(z, 54);
        is(z.sight(9, 90), 0);
        is(z.sight(8, 90), 0);
        is(z.sight(0, 99), 1);
    }

    private static void post() {
        promise = 6;
        GalleryWatch x = of(3, 3);
        is(x.post(4, DOOR), NO);
        is(x.post(4, LAMP), NO);
        is(x.post(0, DOOR), 0);
        is(x.post(5, LAMP), 1);
        is(x.wall(3, 3, 1), 1);
        is(x.post(4, LAMP), 2);
        is(x.post(3, STOOL), NO);
        is(x.post(4, WEDGE), 3);
        is(x.post(4, SLIT), 4);
        is(x.about(3, 2), told(1, 0));
        is(x.about(3, 3), told(0, 1));
        is(x.about(3, 4), NONE);
        is(x.about(4, 2), 230);
        is(x.about(4, 3), 211);
        is(x.about(4, 4), 9);
        is(x.about(2, 5), 1);
        int[] off = {-1, 9, MIN, MAX};
        for (int cell : off) is(x.post(cell, STOOL), BAD);
        int[] kinds = {-1, 5, 32, MIN, MAX};
        for (int kind : kinds) is(x.post(0, kind), BAD);
        is(x.post(3, 5), BAD);
        for (int k = 5; k < 14; k++) is(x.post(8, STOOL), k);
        is(x.post(8, STOOL), FULL);
        is(x.post(3, STOOL), NO);
        is(x.post(8, 5), BAD);
        is(x.post(9, STOOL), BAD);
        is(x.count(2), 14);
        is(x.count(3), 10);
        is(x.drop(), 13);
        is(x.post(8, DOOR), 13);
    }

    private static void aim() {
        promise = 7;
        GalleryWatch x = of(5, 5);
        is(x.post(12, WEDGE), 0);
        is(x.post(0, SLIT), 1);
        stools(x, 0);
        is(x.post(0, LAMP), 3);
        is(told(-9, -9), 21);
        is(told(9, 9), 399);
        is(x.aim(0, 21, 399), BAD);
        is(x.aim(0, 21, 21), 0);
        is(x.about(0, 2), 21);
        is(x.undo(), 4);
        is(x.aim(0, 399, 399), 0);
        is(x.about(0, 2), 399);
        is(x.about(0, 3), 399);
        is(x.aim(0, told(2, 2), told(4, 4)), 0);
        is(x.aim(0, told(1, 0), told(-9, 1)), 0);
        is(x.aim(0, told(1, 0), told(-9, 0)), BAD);
        is(x.aim(0, told(1, 0), told(-9, -1)), BAD);
        is(x.aim(0, told(0, -1), told(1, 0)), 0);
        is(x.aim(0, told(1, 0), told(0, -1)), BAD);
        int[] none = {210, 20, 40, 0, 19, 1, 400, 401, 420, 380 + 20, -1, -211, MIN, MAX};
        for (int code : none) {
            is(x.aim(0, code, told(0, 1)), BAD);
            is(x.aim(0, told(1, 0), code), BAD);
        }
        is(x.about(0, 2), told(0, -1));
        is(x.aim(1, told(-1, 0), told(0, -1)), 0);
        is(x.about(1, 3), told(0, -1));
        is(x.aim(2, 230, 211), NO);
        is(x.aim(3, 230, 211), NO);
        is(x.aim(2, 211, 230), BAD);
        is(x.aim(4, 230, 211), BAD);
        is(x.aim(-1, 230, 211), BAD);
        is(x.count(3), 9);
    }

    private static void reach() {
        promise = 8;
        GalleryWatch x = of(10, 1);
        is(x.post(0, SLIT), 0);
        is(x.post(0, WEDGE), 1);
        is(x.reach(0, 1), 9);
        is(x.reach(0, 9), 1);
        is(x.reach(0, 9), 9);
        is(x.count(3), 5);
        is(x.reach(0, 0), BAD);
        is(x.reach(0, 10), BAD);
        is(x.reach(0, MIN), BAD);
        is(x.reach(1, 3), NO);
        is(x.reach(1, 0), BAD);
        is(x.reach(2, 3), BAD);
        is(x.reach(-1, 3), BAD);
        is(x.count(3), 5);
        is(x.undo(), 4);
        is(x.undo(), 3);
        is(x.about(0, 4), 1);
    }

    private static void move() {
        promise = 9;
        GalleryWatch x = of(3, 3);
        is(x.post(0, DOOR), 0);
        is(x.post(0, SLIT), 1);
        is(x.reach(1, 4), 9);
        is(x.move(0, 4), NO);
        is(x.move(0, 8), 0);
        is(x.move(0, 8), 8);
        is(x.count(3), 5);
        is(x.move(1, 4), 0);
        is(x.about(1, 0), 4);
        is(x.about(1, 4), 4);
        is(x.about(1, 2), 230);
        is(x.wall(5, 5, 1), 1);
        is(x.move(0, 4), 8);
        is(x.move(1, 5), NO);
        is(x.move(1, 9), BAD);
        is(x.move(1, -1), BAD);
        is(x.move(2, 0), BAD);
        is(x.move(-1, 0), BAD);
        is(x.move(2, 5), BAD);
        is(x.about(0, 0), 4);
        is(x.count(3), 8);
    }

    private static void lamp() {
        promise = 10;
        GalleryWatch x = of(2, 2);
        is(x.post(0, LAMP), 0);
        is(x.post(0, DOOR), 1);
        is(x.lamp(0, 1), 1);
        is(x.lamp(0, 0), 1);
        is(x.lamp(0, 0), 0);
        is(x.lamp(0, 1), 0);
        is(x.about(0, 5), 1);
        is(x.count(3), 6);
        is(x.lamp(0, 2), BAD);
        is(x.lamp(0, -1), BAD);
        is(x.lamp(1, 0), NO);
        is(x.lamp(1, 2), BAD);
        is(x.lamp(2, 0), BAD);
        is(x.lamp(-1, 0), BAD);
        is(x.count(3), 6);
    }

    private static void drop() {
        promise = 11;
        GalleryWatch x = of(2, 2);
        is(x.drop(), NO);
        stools(x, 3, 2);
        is(x.drop(), 1);
        is(x.about(1, 0), BAD);
        is(x.about(0, 0), 3);
        is(x.drop(), 0);
        is(x.drop(), NO);
        is(x.count(2), 0);
        is(x.count(3), 4);
    }

    private static void about() {
        promise = 12;
        GalleryWatch x = of(4, 1);
        for (int kind = 0; kind < 5; kind++) is(x.post(kind % 4, kind), kind);
        is(x.lamp(3, 0), 1);
        is(x.reach(4, 2), 9);
        int[][] due = {
            {0, 0, NONE, NONE, NONE, NONE}, {1, 1, 230, 211, NONE, NONE}, {2, 2, NONE, NONE, NONE, NONE},
            {3, 3, NONE, NONE, NONE, 0}, {0, 4, 230, 211, 2, NONE}};
        for (int p = 0; p < 5; p++) {
            for (int what = 0; what < 6; what++) is(x.about(p, what), due[p][what]);
            is(x.about(p, 6), BAD);
            is(x.about(p, -1), BAD);
        }
        is(x.about(5, 0), BAD);
        is(x.about(-1, 0), BAD);
        is(x.about(MIN, MAX), BAD);
        is(x.about(14, 0), BAD);
    }

    private static void isOf() {
        promise = 13;
        GalleryWatch x = of(4, 1);
        for (int kind = 0; kind < 5; kind++) is(x.post(0, kind), kind);
        String[] due = {"10000", "11000", "10100", "10110", "11001"};
        for (int p = 0; p < 5; p++) {
            for (int kind = 0; kind < 5; kind++) is(x.isOf(p, kind), due[p].charAt(kind) - '0');
            is(x.isOf(p, 5), BAD);
            is(x.isOf(p, -1), BAD);
            is(x.isOf(p, 32), BAD);
        }
        is(x.isOf(5, 0), BAD);
        is(x.isOf(-1, 0), BAD);
    }

    private static void undo() {
        promise = 14;
        GalleryWatch x = of(4, 4);
        is(x.undo(), NO);
        for (int cell = 0; cell < 12; cell++) walls(x, cell);
        is(x.count(3), 10);
        for (int kept = 9; kept >= 0; kept--) is(x.undo(), kept);
        is(x.undo(), NO);
        is(x.count(1), 14);
        is(x.isWall(1), 1);
        is(x.isWall(2), 0);
        walls(x, 5);
        is(x.undo(), 0);
        is(x.isWall(5), 0);
        for (int i = 0; i < 25; i++) is(x.wall(15, 15, i & 1), i == 0 ? 0 : 1);
        is(x.undo(), 9);
        is(x.isWall(15), 1);
        is(x.undo(), 8);
        is(x.isWall(15), 0);
        is(x.wall(15, 15, 3), BAD);
        is(x.count(3), 8);
        is(x.wall(14, 14, 1), 1);
        is(x.count(3), 9);
        is(x.room(0, 0), BAD);
        is(x.undo(), 8);
        is(x.isWall(14), 0);
        is(x.room(4, 4), 16);
        is(x.undo(), NO);
    }

    private static void undoOfEachChange() {
        promise = 14;
        GalleryWatch x = of(4, 4);
        is(x.post(0, SLIT), 0);
        is(x.post(3, LAMP), 1);
        is(x.aim(0, told(1, 1), told(0, 1)), 0);
        is(x.reach(0, 3), 9);
        is(x.move(0, 5), 0);
        is(x.lamp(1, 0), 1);
        is(x.drop(), 1);
        is(x.count(3), 7);
        is(x.undo(), 6);
        is(x.about(1, 5), 0);
        is(x.about(1, 0), 3);
        is(x.undo(), 5);
        is(x.about(1, 5), 1);
        is(x.region(1), 16);
        is(x.undo(), 4);
        is(x.about(0, 0), 0);
        is(x.undo(), 3);
        is(x.about(0, 4), 9);
        is(x.undo(), 2);
        is(x.about(0, 2), 230);
        is(x.region(0), 16);
        is(x.undo(), 1);
        is(x.count(2), 1);
        is(x.undo(), 0);
        is(x.count(2), 0);
        is(x.about(0, 0), BAD);
    }

    private static void sees() {
        promise = 15;
        GalleryWatch x = halves();
        is(x.sees(0, 0), 1);
        is(x.sees(0, 1), 1);
        is(x.sees(0, 2), 0);
        is(x.sees(0, 3), 0);
        is(x.sees(2, 3), 1);
        is(x.sees(0, 5), BAD);
        is(x.sees(0, -1), BAD);
        is(x.sees(3, 0), BAD);
        is(x.sees(-1, 0), BAD);
        is(x.sees(32, 0), BAD);
        is(x.post(4, LAMP), 3);
        is(x.sees(3, 4), 1);
        is(x.lamp(3, 0), 1);
        is(x.sees(3, 4), 0);
        is(x.sees(3, 3), 0);
        is(x.undo(), 5);
        is(x.sees(3, 3), 1);
        is(x.wall(2, 2, 0), 1);
        is(x.sees(0, 4), 1);
        is(x.move(0, 2), 0);
        is(x.sees(0, 2), 1);
        GalleryWatch y = of(10, 10);
        is(y.post(0, SLIT), 0);
        is(y.reach(0, 3), 9);
        is(y.sees(0, 33), 1);
        is(y.sees(0, 34), 0);
        is(y.sees(0, 43), 0);
        is(y.sees(0, 0), 1);
        is(y.aim(0, told(-1, 0), told(0, -1)), 0);
        is(y.move(0, 99), 0);
        is(y.sees(0, 66), 1);
        is(y.sees(0, 65), 0);
        is(y.sees(0, 56), 0);
    }

    private static void wedgeSees() {
        promise = 15;
        GalleryWatch x = of(5, 5);
        is(x.post(12, WEDGE), 0);
        is(x.sees(0, 12), 1);
        is(x.sees(0, 14), 1);
        is(x.sees(0, 22), 1);
        is(x.sees(0, 24), 1);
        is(x.sees(0, 11), 0);
        is(x.sees(0, 7), 0);
        is(x.sees(0, 9), 0);
        is(x.sees(0, 21), 0);
        is(x.aim(0, told(1, 1), told(2, 2)), 0);
        is(x.sees(0, 18), 1);
        is(x.sees(0, 24), 1);
        is(x.sees(0, 6), 0);
        is(x.sees(0, 23), 0);
        is(x.sees(0, 12), 1);
        is(x.aim(0, told(-1, -1), told(1, -1)), 0);
        is(x.sees(0, 0), 1);
        is(x.sees(0, 4), 1);
        is(x.sees(0, 7), 1);
        is(x.sees(0, 5), 0);
        is(x.sees(0, 10), 0);
        is(x.sees(0, 17), 0);
    }

    private static void region() {
        promise = 16;
        GalleryWatch x = of(5, 5);
        is(x.post(12, WEDGE), 0);
        is(x.post(0, SLIT), 1);
        is(x.region(0), 9);
        is(x.aim(0, told(1, 0), told(-9, 1)), 0);
        is(x.region(0), 13);
        is(x.aim(0, told(1, 1), told(1, 1)), 0);
        is(x.region(0), 3);
        is(x.region(1), 25);
        is(x.reach(1, 1), 9);
        is(x.region(1), 4);
        walls(x, 1, 6);
        is(x.region(1), 2);
        is(x.region(2), BAD);
        is(x.region(-1), BAD);
        is(x.region(MAX), BAD);
        is(x.post(24, LAMP), 2);
        is(x.lamp(2, 0), 1);
        is(x.region(2), 0);
    }

    private static void watchers() {
        promise = 17;
        GalleryWatch x = halves();
        is(x.watchers(0), 3);
        is(x.watchers(2), 0);
        is(x.watchers(3), 4);
        is(x.watchers(5), BAD);
        is(x.watchers(-1), BAD);
        is(thirds().watchers(6), 0);
    }

    private static void blind() {
        promise = 18;
        GalleryWatch x = halves();
        is(x.blind(0), 0);
        is(x.blind(1), 3);
        is(x.blind(3), 3);
        is(x.blind(4), 0);
        is(x.blind(5), NONE);
        is(x.blind(7), NONE);
        int[] none = {8, 9, 15, -1, MIN, MAX, 1 << 14};
        for (int set : none) is(x.blind(set), BAD);
        GalleryWatch y = new GalleryWatch();
        is(y.blind(0), 0);
        is(y.blind(1), BAD);
    }

    private static void seen() {
        promise = 19;
        GalleryWatch x = halves();
        is(x.seen(0), 0);
        is(x.seen(1), 2);
        is(x.seen(3), 2);
        is(x.seen(7), 4);
        int[] none = {8, 9, -1, MIN, MAX};
        for (int set : none) is(x.seen(set), BAD);
    }

    private static void spare() {
        promise = 20;
        GalleryWatch x = halves();
        is(x.spare(7), 3);
        is(x.spare(5), 0);
        is(x.spare(6), 0);
        is(x.spare(3), NO);
        is(x.spare(0), NO);
        int[] none = {8, 9, 15, -1, MIN, MAX};
        for (int set : none) is(x.spare(set), BAD);
        is(ring().spare(15), 15);
        is(ring().spare(13), 4);
    }

    private static void fewest() {
        promise = 21;
        GalleryWatch x = halves();
        is(x.fewest(), 2);
        is(x.wall(2, 2, 0), 1);
        is(x.fewest(), 1);
        is(x.undo(), 4);
        is(x.fewest(), 2);
        is(x.drop(), 2);
        is(x.fewest(), NONE);
        is(thirds().fewest(), NONE);
        is(ring().fewest(), 2);
        GalleryWatch y = of(1, 10);
        for (int cell = 1; cell < 10; cell += 2) walls(y, cell);
        stools(y, 8, 6, 4, 2, 0);
        is(y.fewest(), 5);
        // Cells of all parts of the room, in pairs: none may be taken for another one.
        int[] apart = {0, 35, 63, 64, 99};
        for (int one : apart) {
            for (int other : apart) {
                GalleryWatch w = of(10, 10);
                w.wall(0, 99, 1);
                w.wall(one, one, 0);
                w.wall(other, other, 0);
                is(w.post(one, SLIT), 0);
                is(w.fewest(), one == other || one == 63 && other == 64 ? 1 : NONE);
            }
        }
        GalleryWatch z = cups();
        is(z.fewest(), 14);
        is(z.choose(), (1 << 14) - 1);
        is(z.many(), 1);
        is(z.only(), (1 << 14) - 1);
        is(z.tree(6), 7);
    }

    /** Fourteen cells that hang by corners alone, a post with a reach of one in each. */
    private static GalleryWatch cups() {
        GalleryWatch x = of(10, 10);
        is(x.wall(0, 99, 1), 100);
        for (int k = 0; k < 14; k++) {
            int cell = k / 5 * 40 + k % 5 * 2;
            is(x.wall(cell, cell, 0), 1);
            is(x.post(cell, SLIT), k);
            is(x.reach(k, 1), 9);
        }
        return x;
    }

    private static void choose() {
        promise = 22;
        is(halves().choose(), 5);
        is(ring().choose(), 9);
        is(thirds().choose(), NONE);
        GalleryWatch x = ring();
        is(x.move(0, 17), 0);
        is(x.move(3, 17), 17);
        is(x.choose(), 6);
        is(x.move(1, 0), 5);
        is(x.choose(), 3);
        GalleryWatch y = of(10, 10);
        stools(y, 99, 0);
        is(y.choose(), 1);
        is(y.wall(90, 99, 1), NO);
    }

    private static void many() {
        promise = 23;
        is(halves().many(), 2);
        is(ring().many(), 2);
        is(thirds().many(), 0);
        GalleryWatch x = of(2, 2);
        is(x.many(), 0);
        for (int k = 0; k < 14; k++) stools(x, k % 4);
        is(x.many(), 14);
    }

    private static void only() {
        promise = 24;
        is(halves().only(), 4);
        is(ring().only(), 0);
        is(thirds().only(), NONE);
        GalleryWatch x = ring();
        is(x.drop(), 3);
        is(x.only(), 6);
    }

    private static void noOpenCells() {
        promise = 21;
        GalleryWatch x = of(2, 1);
        is(x.wall(1, 0, 1), 2);
        is(x.count(1), 0);
        is(x.fewest(), 0);
        is(x.choose(), 0);
        is(x.many(), 1);
        is(x.only(), 0);
        is(x.blind(0), NONE);
        is(x.seen(0), 0);
        is(x.spare(0), 0);
        is(x.hides(), 0);
        is(x.sneak(0, 0), NONE);
        is(x.tree(0), NO);
        is(x.tree(6), NO);
        is(x.post(0, STOOL), NO);
    }

    private static void sneak() {
        promise = 25;
        GalleryWatch x = of(3, 3);
        is(x.sneak(0, 8), 4);
        is(x.sneak(0, 0), 0);
        walls(x, 4);
        is(x.sneak(3, 5), 4);
        is(x.sneak(4, 4), NONE);
        is(x.sneak(4, 0), NONE);
        walls(x, 1);
        is(x.sneak(0, 2), 6);
        walls(x, 7);
        is(x.sneak(0, 2), NONE);
        is(x.sneak(0, 6), 2);
        is(x.sneak(0, 9), BAD);
        is(x.sneak(-1, 0), BAD);
        is(x.sneak(4, MAX), BAD);
        GalleryWatch y = of(3, 3);
        is(y.post(3, SLIT), 0);
        is(y.aim(0, told(1, 0), told(1, 0)), 0);
        is(y.sneak(0, 6), NONE);
        is(y.sneak(3, 3), NONE);
        is(y.reach(0, 1), 9);
        is(y.sneak(0, 6), 6);
        is(y.sneak(0, 3), NONE);
    }

    private static void path(GalleryWatch x, int from, int to, int... cells) {
        for (int i = 0; i < cells.length; i++) is(x.way(from, to, i), cells[i]);
        is(x.way(from, to, cells.length), NONE);
        is(x.way(from, to, MAX), NONE);
    }

    private static void way() {
        promise = 26;
        GalleryWatch x = of(3, 3);
        path(x, 0, 8, 0, 1, 2, 5, 8);
        path(x, 8, 0, 8, 5, 2, 1, 0);
        path(x, 6, 2, 6, 3, 0, 1, 2);
        path(x, 2, 6, 2, 1, 0, 3, 6);
        path(x, 4, 4, 4);
        walls(x, 2);
        path(x, 0, 8, 0, 1, 4, 5, 8);
        path(x, 8, 0, 8, 5, 4, 1, 0);
        path(x, 2, 0);
        path(x, 0, 2);
        is(x.way(0, 8, -1), BAD);
        is(x.way(0, 2, MIN), BAD);
        is(x.way(0, 9, 0), BAD);
        is(x.way(-1, 0, 0), BAD);
        is(x.way(9, 0, 99), BAD);
        stools(x, 0);
        is(x.way(8, 8, 0), NONE);
        GalleryWatch y = of(1, 4);
        path(y, 3, 0, 3, 2, 1, 0);
        path(y, 1, 3, 1, 2, 3);
    }

    private static void hides() {
        promise = 27;
        GalleryWatch x = of(3, 3);
        is(x.hides(), 1);
        walls(x, 1, 3, 5, 7);
        is(x.hides(), 5);
        stools(x, 4);
        is(x.hides(), 0);
        is(x.move(0, 0), 4);
        is(x.hides(), 2);
        is(thirds().hides(), 1);
        is(halves().hides(), 0);
        GalleryWatch y = of(3, 1);
        is(y.post(1, LAMP), 0);
        is(y.hides(), 0);
        is(y.lamp(0, 0), 1);
        is(y.hides(), 1);
    }

    private static void tree() {
        promise = 28;
        GalleryWatch x = halves();
        is(x.tree(-1), BAD);
        is(x.tree(7), BAD);
        is(x.tree(MIN), BAD);
        is(x.tree(2), NO);
        is(x.tree(6), NO);
        is(x.count(4), 0);
        is(x.tree(0), 1);
        is(x.tree(1), 3);
        is(x.tree(2), NO);
        is(x.tree(7), BAD);
        is(x.count(4), 3);
        is(x.check(), 0);
        is(x.tree(0), 1);
        is(x.count(4), 1);
        is(x.count(3), 4);
        is(thirds().tree(0), 1);
        is(thirds().tree(1), 3);
        is(thirds().tree(2), 5);
        is(thirds().tree(6), 5);
        is(new GalleryWatch().tree(6), 1);
        is(ring().tree(1), 4);
    }

    /** Found with the slow model: a tree of 600 rows just fits, one of 601 does not. */
    private static void treeSizes() {
        promise = 28;
        GalleryWatch x = of(4, 8);
        walls(x, 5, 25, 18, 3, 7);
        stools(x, 21, 12, 21, 13, 17, 1, 1, 4, 13);
        is(x.tree(5), 600);
        is(x.count(4), 600);
        is(x.row(599, 3), 0);
        is(x.row(600, 0), BAD);
        is(x.check(), 0);
        GalleryWatch y = of(8, 4);
        walls(y, 20, 26, 28, 23, 27, 22);
        stools(y, 25, 25, 24, 10, 7, 3, 4, 8, 6, 15);
        is(y.tree(6), FULL);
        is(y.count(4), 0);
        is(y.check(), NO);
        int rows = y.tree(1);
        is(y.row(0, 3), rows - 1);
        is(y.forge(0, 5), 0);
        is(y.tree(6), FULL);
        is(y.count(4), rows);
        is(y.row(0, 0), 5);
    }

    private static void treeEnds() {
        promise = 28;
        GalleryWatch x = of(4, 4);
        is(x.post(0, SLIT), 0);
        is(x.reach(0, 1), 9);
        is(x.post(0, LAMP), 1);
        is(x.lamp(1, 0), 1);
        for (int change = 0; change < 8; change++) {
            is(x.tree(0), 1);
            is(x.check(), 0);
            switch (change) {
                case 0: is(x.wall(15, 15, 0), 0); break;
                case 1: is(x.post(0, STOOL), 2); break;
                case 2: is(x.aim(0, 230, 211), 0); break;
                case 3: is(x.reach(0, 1), 1); break;
                case 4: is(x.move(0, 0), 0); break;
                case 5: is(x.lamp(1, 0), 0); break;
                case 6: is(x.drop(), 2); break;
                default: is(x.undo(), 9);
            }
            is(x.check(), NO);
            is(x.count(4), 0);
            is(x.row(0, 0), NO);
            is(x.forge(0, 0), NO);
        }
        GalleryWatch y = new GalleryWatch();
        is(y.tree(3), 1);
        is(y.undo(), NO);
        is(y.drop(), NO);
        is(y.wall(0, 0, 2), BAD);
        is(y.room(0, 1), BAD);
        is(y.check(), 0);
        is(y.room(1, 1), 1);
        is(y.check(), NO);
    }

    private static void row() {
        promise = 29;
        GalleryWatch x = thirds();
        is(x.row(0, 0), NO);
        is(x.row(-1, 9), NO);
        is(x.tree(3), 5);
        int[][] due = {{0, NONE, NONE, 2}, {3, 0, 0, 1}, {6, 1, 2, 0}, {3, 0, 1, 1}, {6, 3, 2, 0}};
        for (int i = 0; i < 5; i++) {
            for (int what = 0; what < 4; what++) is(x.row(i, what), due[i][what]);
            is(x.row(i, 4), BAD);
            is(x.row(i, -1), BAD);
        }
        is(x.row(5, 0), BAD);
        is(x.row(-1, 0), BAD);
        is(x.row(MAX, MIN), BAD);
        is(x.tree(1), 3);
        is(x.row(1, 3), 0);
        is(x.row(3, 0), BAD);
    }

    private static void forge() {
        promise = 30;
        GalleryWatch x = thirds();
        is(x.forge(0, 0), NO);
        is(x.forge(-1, -1), NO);
        is(x.tree(2), 5);
        is(x.forge(1, 2), 3);
        is(x.forge(1, 2), 2);
        is(x.row(1, 0), 2);
        is(x.row(1, 3), 1);
        is(x.row(2, 0), 6);
        is(x.forge(1, 7), BAD);
        is(x.forge(1, -1), BAD);
        is(x.forge(5, 0), BAD);
        is(x.forge(-1, 0), BAD);
        is(x.row(1, 0), 2);
        is(x.count(3), 5);
        is(x.count(4), 5);
        is(x.tree(2), 5);
        is(x.row(1, 0), 3);
    }

    private static void check() {
        promise = 31;
        GalleryWatch x = thirds();
        is(x.check(), NO);
        is(x.tree(3), 5);
        is(x.check(), 0);
        is(x.forge(2, 4), 6);
        is(x.check(), 3);
        is(x.forge(4, 2), 6);
        is(x.check(), 3);
        is(x.forge(2, 6), 4);
        is(x.check(), 5);
        is(x.forge(4, 6), 2);
        is(x.check(), 0);
        is(x.forge(1, 4), 3);
        is(x.check(), 0);
        is(x.forge(1, 6), 4);
        is(x.check(), 2);
        is(x.forge(0, 6), 0);
        is(x.check(), 1);
        is(x.forge(0, 1), 6);
        is(x.forge(1, 3), 6);
        is(x.check(), 0);
        is(x.forge(0, 3), 1);
        is(x.check(), 1);
        is(x.tree(1), 3);
        is(x.forge(1, 6), 3);
        is(x.forge(2, 4), 3);
        is(x.check(), 0);
        is(x.forge(2, 0), 4);
        is(x.check(), 3);
        is(x.forge(1, 5), 6);
        is(x.check(), 2);
        is(x.tree(0), 1);
        is(x.forge(0, 6), 0);
        is(x.check(), 0);
        is(x.forge(0, 2), 6);
        is(x.check(), 1);
    }

    private static void count() {
        promise = 32;
        GalleryWatch x = thirds();
        is(x.tree(2), 5);
        int[] due = {7, 5, 3, 5, 5, 1, 7};
        for (int what = 0; what < due.length; what++) is(x.count(what), due[what]);
        is(x.count(7), BAD);
        is(x.count(-1), BAD);
        is(x.count(MIN), BAD);
        is(x.count(MAX), BAD);
        GalleryWatch y = of(3, 8);
        is(y.count(6), 3);
        is(y.count(5), 24);
        stools(y, 0);
        is(y.count(5), 0);
        is(y.undo(), 0);
        is(y.count(5), 24);
    }

    private static void readme() {
        promise = 14;
        GalleryWatch g = new GalleryWatch();
        is(g.room(6, 3), 18);
        is(g.wall(7, 10, 1), 4);
        is(g.post(0, 0), 0);
        is(g.post(17, 0), 1);
        is(g.fewest(), 2);
        is(g.choose(), 3);
        is(g.tree(1), 2);
        is(g.undo(), 2);
    }
}
