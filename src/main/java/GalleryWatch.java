import java.util.Arrays;

/**
 * A gallery that is to be watched: a room of cells with walls, posts that see along straight
 * lines, the fewest posts that see every cell, ways to go unseen, and trees that prove that no
 * fewer posts do. Nothing but a post's new state is made after the constructor has run.
 */
public final class GalleryWatch {
    public static final int BAD = -2000000001, NO = -2000000002, FULL = -2000000003, NONE = -2000000005;

    private static final int MAX_SIDE = 10;
    private static final int MAX_CELLS = MAX_SIDE * MAX_SIDE;
    private static final int MAX_POSTS = 14;
    private static final int MAX_KEPT = 10;
    private static final int MAX_ROWS = 600;
    private static final int MAX_TREE_POSTS = 6;
    private static final int MAX_REACH = 9;
    private static final int SIDES = 4;
    private static final int NOWHERE = -1;
    private static final int WORD = 64;

    private static final int WEDGE = 1;
    private static final int DOOR = 2;
    private static final int LAMP = 3;
    private static final int SLIT = 4;
    /** Bit j of entry k: a post of kind k is of kind j, too. */
    private static final int[] KINDS_OF = {0b00001, 0b00011, 0b00101, 0b01101, 0b10011};

    private final Room now;
    private final Room draft;
    private final Past past;
    private final View view;
    private final Choice choice;
    private final Shade shade;
    private final Proof proof;

    public GalleryWatch() {
        Room first = new Room();
        View looks = new View(first);
        now = first;
        draft = new Room();
        past = new Past();
        view = looks;
        choice = new Choice(looks);
        shade = new Shade(looks);
        proof = new Proof(looks);
    }

    // ---- the room

    public int room(int width, int height) {
        if (!isWithin(width, 1, MAX_SIDE) || !isWithin(height, 1, MAX_SIDE)) {
            return BAD;
        }
        now.begin(width, height);
        past.forget();
        outdate();
        return now.cells();
    }

    public int wall(int a, int b, int on) {
        if (!now.hasCell(a) || !now.hasCell(b) || !isWithin(on, 0, 1)) {
            return BAD;
        }
        // Built beside the room first: whether the posts can stay shows only in what comes of it.
        draft.copyFrom(now);
        int turned = draft.build(a, b, on);
        if (!draft.holdsItsPosts()) {
            return NO;
        }
        beginChange();
        now.copyFrom(draft);
        return turned;
    }

    public int isWall(int cell) {
        if (!now.hasCell(cell)) {
            return BAD;
        }
        return bit(!now.isOpen(cell));
    }

    public int sight(int a, int b) {
        if (!now.hasCell(a) || !now.hasCell(b)) {
            return BAD;
        }
        return bit(now.inSight(a, b));
    }

    // ---- posts

    public int post(int cell, int kind) {
        if (!now.hasCell(cell) || !isKind(kind)) {
            return BAD;
        }
        if (!now.canStand(cell, kind)) {
            return NO;
        }
        int number = now.posts();
        if (number >= MAX_POSTS) {
            return FULL;
        }
        beginChange();
        now.addPost(newPost(cell, kind));
        return number;
    }

    public int aim(int post, int from, int to) {
        Post p = now.postAt(post);
        if (p == null || !areDirections(from, to)) {
            return BAD;
        }
        if (!isKindOf(p.kind, WEDGE)) {
            return NO;
        }
        beginChange();
        now.setPost(post, new Post(p.cell, p.kind, from, to, p.reach, p.lit));
        return 0;
    }

    public int reach(int post, int n) {
        Post p = now.postAt(post);
        if (p == null || !isWithin(n, 1, MAX_REACH)) {
            return BAD;
        }
        if (p.kind != SLIT) {
            return NO;
        }
        beginChange();
        now.setPost(post, new Post(p.cell, p.kind, p.from, p.to, n, p.lit));
        return p.reach;
    }

    public int move(int post, int cell) {
        Post p = now.postAt(post);
        if (p == null || !now.hasCell(cell)) {
            return BAD;
        }
        if (!now.canStand(cell, p.kind)) {
            return NO;
        }
        beginChange();
        now.setPost(post, new Post(cell, p.kind, p.from, p.to, p.reach, p.lit));
        return p.cell;
    }

    public int lamp(int post, int lit) {
        Post p = now.postAt(post);
        if (p == null || !isWithin(lit, 0, 1)) {
            return BAD;
        }
        if (p.kind != LAMP) {
            return NO;
        }
        beginChange();
        now.setPost(post, new Post(p.cell, p.kind, p.from, p.to, p.reach, lit));
        return p.lit;
    }

    public int drop() {
        if (now.posts() == 0) {
            return NO;
        }
        beginChange();
        now.removeLatestPost();
        return now.posts();
    }

    public int about(int post, int what) {
        Post p = now.postAt(post);
        if (p == null) {
            return BAD;
        }
        switch (what) {
            case 0:
                return p.cell;
            case 1:
                return p.kind;
            case 2:
                return p.from;
            case 3:
                return p.to;
            case 4:
                return p.reach;
            case 5:
                return p.lit;
            default:
                return BAD;
        }
    }

    public int isOf(int post, int kind) {
        Post p = now.postAt(post);
        if (p == null || !isKind(kind)) {
            return BAD;
        }
        return bit(isKindOf(p.kind, kind));
    }

    public int undo() {
        if (past.kept() == 0) {
            return NO;
        }
        past.takeBack(now);
        outdate();
        return past.kept();
    }

    // ---- who sees what

    public int sees(int post, int cell) {
        if (now.postAt(post) == null || !now.hasCell(cell)) {
            return BAD;
        }
        view.refresh();
        return view.watchersOf(cell) >> post & 1;
    }

    public int region(int post) {
        if (now.postAt(post) == null) {
            return BAD;
        }
        view.refresh();
        return view.cellsSeenBy(1 << post);
    }

    public int watchers(int cell) {
        if (!now.hasCell(cell)) {
            return BAD;
        }
        view.refresh();
        return view.watchersOf(cell);
    }

    public int blind(int set) {
        if (!now.hasPosts(set)) {
            return BAD;
        }
        view.refresh();
        return view.leastUnwatched(set);
    }

    public int seen(int set) {
        if (!now.hasPosts(set)) {
            return BAD;
        }
        view.refresh();
        return view.cellsSeenBy(set);
    }

    public int spare(int set) {
        if (!now.hasPosts(set)) {
            return BAD;
        }
        view.refresh();
        if (view.leastUnwatched(set) != NONE) {
            return NO;
        }
        return view.sparedOf(set);
    }

    // ---- the fewest

    public int fewest() {
        view.refresh();
        choice.solve();
        return choice.size;
    }

    public int choose() {
        view.refresh();
        choice.solve();
        return choice.first;
    }

    public int many() {
        view.refresh();
        choice.solve();
        return choice.found;
    }

    public int only() {
        view.refresh();
        int all = now.allPosts();
        if (view.leastUnwatched(all) != NONE) {
            return NONE;
        }
        // More posts never see less: a post is in each set that watches, if all the others don't.
        return all & ~view.sparedOf(all);
    }

    // ---- unseen

    public int sneak(int from, int to) {
        if (!now.hasCell(from) || !now.hasCell(to)) {
            return BAD;
        }
        view.refresh();
        return shade.stepsBetween(from, to);
    }

    public int way(int from, int to, int i) {
        if (!now.hasCell(from) || !now.hasCell(to) || i < 0) {
            return BAD;
        }
        view.refresh();
        return shade.cellOnWay(from, to, i);
    }

    public int hides() {
        view.refresh();
        return shade.parts();
    }

    // ---- trees

    public int tree(int n) {
        if (!isWithin(n, 0, MAX_TREE_POSTS)) {
            return BAD;
        }
        view.refresh();
        choice.solve();
        if (choice.size != NONE && choice.size <= n) {
            return NO;
        }
        return proof.make(n);
    }

    public int row(int i, int what) {
        if (proof.rows() == 0) {
            return NO;
        }
        if (!proof.hasRow(i)) {
            return BAD;
        }
        switch (what) {
            case 0:
                return proof.cellOf(i);
            case 1:
                return proof.aboveOf(i);
            case 2:
                return proof.comerOf(i);
            case 3:
                return proof.rowsBelow(i);
            default:
                return BAD;
        }
    }

    public int forge(int i, int cell) {
        if (proof.rows() == 0) {
            return NO;
        }
        if (!proof.hasRow(i) || !now.hasCell(cell)) {
            return BAD;
        }
        return proof.replaceCell(i, cell);
    }

    public int check() {
        if (proof.rows() == 0) {
            return NO;
        }
        view.refresh();
        int wrong = proof.firstWrongRow();
        return wrong == NONE ? 0 : 1 + wrong;
    }

    public int count(int what) {
        switch (what) {
            case 0:
                return now.cells();
            case 1:
                return now.openCells();
            case 2:
                return now.posts();
            case 3:
                return past.kept();
            case 4:
                return proof.rows();
            case 5:
                view.refresh();
                return view.unseenCells();
            case 6:
                return now.width;
            default:
                return BAD;
        }
    }

    /** Stands ahead of what alters the room, so that it can be taken back. */
    private void beginChange() {
        past.keep(now);
        outdate();
    }

    private void outdate() {
        view.outdate();
        choice.outdate();
        proof.end();
    }

    private static boolean isWithin(int n, int least, int greatest) {
        return n >= least && n <= greatest;
    }

    private static int bit(boolean so) {
        return so ? 1 : 0;
    }

    private static boolean isKind(int kind) {
        return kind >= 0 && kind < KINDS_OF.length;
    }

    private static boolean isKindOf(int kind, int wider) {
        return isKind(kind) && isKind(wider) && (KINDS_OF[kind] >> wider & 1) == 1;
    }

    /** A post as it comes: what its kind does not have is NONE, as about() tells it. */
    private static Post newPost(int cell, int kind) {
        boolean wedge = isKindOf(kind, WEDGE);
        int from = wedge ? told(1, 0) : NONE;
        int to = wedge ? told(0, 1) : NONE;
        return new Post(cell, kind, from, to, kind == SLIT ? MAX_REACH : NONE, kind == LAMP ? 1 : NONE);
    }

    private static int told(int across, int down) {
        return 20 * (across + 10) + down + 10;
    }

    private static int acrossOf(int told) {
        return told / 20 - 10;
    }

    private static int downOf(int told) {
        return told % 20 - 10;
    }

    private static boolean isDirection(int told) {
        int across = acrossOf(told);
        int down = downOf(told);
        return isWithin(across, -9, 9) && isWithin(down, -9, 9) && (across != 0 || down != 0);
    }

    private static boolean areDirections(int from, int to) {
        if (!isDirection(from) || !isDirection(to)) {
            return false;
        }
        int a = acrossOf(from);
        int b = downOf(from);
        int d = acrossOf(to);
        int e = downOf(to);
        int turn = a * e - b * d;
        return turn > 0 || turn == 0 && a * d + b * e > 0;
    }

    /** A post's state; it never changes, so that kept rooms may share it. */
    private static final class Post {
        private final int cell;
        private final int kind;
        private final int from;
        private final int to;
        private final int reach;
        private final int lit;

        Post(int cell, int kind, int from, int to, int reach, int lit) {
            this.cell = cell;
            this.kind = kind;
            this.from = from;
            this.to = to;
            this.reach = reach;
            this.lit = lit;
        }

        /** Whether its kind lets it see a cell in sight that is so many columns and rows away. */
        boolean lets(int x, int y) {
            if (kind == LAMP) {
                return lit == 1;
            }
            if (kind == SLIT && Math.max(Math.abs(x), Math.abs(y)) > reach) {
                return false;
            }
            return !isKindOf(kind, WEDGE) || x == 0 && y == 0 || isBetween(x, y);
        }

        private boolean isBetween(int x, int y) {
            int a = acrossOf(from);
            int b = downOf(from);
            int d = acrossOf(to);
            int e = downOf(to);
            int pastFrom = a * y - b * x;
            int aheadOfTo = x * e - y * d;
            if (a * e - b * d == 0) {
                return pastFrom == 0 && aheadOfTo == 0 && a * x + b * y > 0;
            }
            return pastFrom >= 0 && aheadOfTo >= 0;
        }
    }

    /** All that a change alters: the cells, and the posts in them. */
    private static final class Room {
        private int width = 1;
        private int height = 1;
        private int postCount;
        private final int[] walls = new int[MAX_CELLS];
        private final Post[] posts = new Post[MAX_POSTS];

        void begin(int newWidth, int newHeight) {
            width = newWidth;
            height = newHeight;
            postCount = 0;
            Arrays.fill(walls, 0);
            for (int k = 0; k < MAX_POSTS; k++) {
                posts[k] = null;
            }
        }

        void copyFrom(Room other) {
            width = other.width;
            height = other.height;
            postCount = other.postCount;
            System.arraycopy(other.walls, 0, walls, 0, MAX_CELLS);
            System.arraycopy(other.posts, 0, posts, 0, MAX_POSTS);
        }

        int cells() {
            return width * height;
        }

        boolean hasCell(int cell) {
            return cell >= 0 && cell < width * height && cell < MAX_CELLS;
        }

        /** Outside all is wall. */
        boolean isOpen(int cell) {
            return hasCell(cell) && walls[cell] == 0;
        }

        int openCells() {
            int open = 0;
            for (int cell = 0; cell < MAX_CELLS; cell++) {
                open += bit(isOpen(cell));
            }
            return open;
        }

        int rowOf(int cell) {
            return width < 1 ? 0 : cell / width;
        }

        int columnOf(int cell) {
            return width < 1 ? 0 : cell % width;
        }

        /** The neighbour on a side, or NOWHERE; sides 0 .. 3 are in the order of their cells. */
        int beside(int cell, int side) {
            int row = rowOf(cell);
            int column = columnOf(cell);
            switch (side) {
                case 0:
                    return row > 0 ? cell - width : NOWHERE;
                case 1:
                    return column > 0 ? cell - 1 : NOWHERE;
                case 2:
                    return column < width - 1 ? cell + 1 : NOWHERE;
                default:
                    return row < height - 1 ? cell + width : NOWHERE;
            }
        }

        /** Makes all between two cells wall (1) or open (0): how many of them were not so. */
        int build(int a, int b, int on) {
            int top = Math.min(rowOf(a), rowOf(b));
            int bottom = Math.max(rowOf(a), rowOf(b));
            int left = Math.min(columnOf(a), columnOf(b));
            int right = Math.max(columnOf(a), columnOf(b));
            int turned = 0;
            for (int row = top; row <= bottom; row++) {
                for (int column = left; column <= right; column++) {
                    int cell = row * width + column;
                    if (hasCell(cell) && walls[cell] != on) {
                        walls[cell] = on;
                        turned++;
                    }
                }
            }
            return turned;
        }

        /**
         * A line passes through a cell's inside, if the cell has corners on both sides of it: if
         * its middle is nearer to the line than its farthest corner could be.
         */
        boolean inSight(int a, int b) {
            if (!isOpen(a) || !isOpen(b)) {
                return false;
            }
            int rowA = rowOf(a);
            int columnA = columnOf(a);
            int rowB = rowOf(b);
            int columnB = columnOf(b);
            int down = rowB - rowA;
            int across = columnB - columnA;
            int corner = Math.abs(down) + Math.abs(across);
            for (int row = Math.min(rowA, rowB); row <= Math.max(rowA, rowB); row++) {
                for (int column = Math.min(columnA, columnB); column <= Math.max(columnA, columnB); column++) {
                    int middle = 2 * Math.abs(across * (row - rowA) - down * (column - columnA));
                    if (middle < corner && !isOpen(row * width + column)) {
                        return false;
                    }
                }
            }
            return true;
        }

        int posts() {
            return postCount;
        }

        int allPosts() {
            return (1 << postCount) - 1;
        }

        boolean hasPosts(int set) {
            return (set & ~allPosts()) == 0;
        }

        /** The post of a number, or null. */
        Post postAt(int number) {
            return number >= 0 && number < postCount && number < MAX_POSTS ? posts[number] : null;
        }

        void setPost(int number, Post post) {
            if (number >= 0 && number < MAX_POSTS) {
                posts[number] = post;
            }
        }

        void addPost(Post post) {
            if (postCount < MAX_POSTS) {
                posts[postCount] = post;
                postCount++;
            }
        }

        void removeLatestPost() {
            if (postCount > 0) {
                postCount--;
                setPost(postCount, null);
            }
        }

        boolean canStand(int cell, int kind) {
            return isOpen(cell) && (!isKindOf(kind, DOOR) || isAtWall(cell));
        }

        private boolean isAtWall(int cell) {
            for (int side = 0; side < SIDES; side++) {
                if (!isOpen(beside(cell, side))) {
                    return true;
                }
            }
            return false;
        }

        boolean holdsItsPosts() {
            for (int k = 0; k < MAX_POSTS; k++) {
                Post post = postAt(k);
                if (post != null && !canStand(post.cell, post.kind)) {
                    return false;
                }
            }
            return true;
        }
    }

    /** The rooms as they were ahead of the latest changes, in a ring. */
    private static final class Past {
        private final Room[] rooms = new Room[MAX_KEPT];
        private int kept;
        private int next;

        Past() {
            for (int i = 0; i < MAX_KEPT; i++) {
                rooms[i] = new Room();
            }
        }

        int kept() {
            return kept;
        }

        void forget() {
            kept = 0;
            next = 0;
        }

        void keep(Room room) {
            Room slot = nextSlot();
            if (slot != null) {
                slot.copyFrom(room);
            }
            next = next < MAX_KEPT - 1 ? next + 1 : 0;
            kept = Math.min(kept + 1, MAX_KEPT);
        }

        void takeBack(Room room) {
            if (kept > 0) {
                next = next > 0 ? next - 1 : MAX_KEPT - 1;
                kept--;
                Room slot = nextSlot();
                if (slot != null) {
                    room.copyFrom(slot);
                }
            }
        }

        private Room nextSlot() {
            return next >= 0 && next < MAX_KEPT ? rooms[next] : null;
        }
    }

    /** Who sees what in a room; held until the room changes, as all other answers rest on it. */
    private static final class View {
        private final Room room;
        private final int[] watchers = new int[MAX_CELLS];
        private boolean upToDate;

        View(Room room) {
            this.room = room;
        }

        void outdate() {
            upToDate = false;
        }

        void refresh() {
            if (upToDate) {
                return;
            }
            for (int cell = 0; cell < MAX_CELLS; cell++) {
                watchers[cell] = room.isOpen(cell) ? lookedUp(cell) : 0;
            }
            upToDate = true;
        }

        private int lookedUp(int cell) {
            int set = 0;
            for (int k = 0; k < MAX_POSTS; k++) {
                Post post = room.postAt(k);
                if (post != null && isSeenFrom(post, cell)) {
                    set |= 1 << k;
                }
            }
            return set;
        }

        private boolean isSeenFrom(Post post, int cell) {
            int x = room.columnOf(cell) - room.columnOf(post.cell);
            int y = room.rowOf(cell) - room.rowOf(post.cell);
            return post.lets(x, y) && room.inSight(post.cell, cell);
        }

        int watchersOf(int cell) {
            return room.hasCell(cell) ? watchers[cell] : 0;
        }

        boolean isUnseen(int cell) {
            return room.isOpen(cell) && watchersOf(cell) == 0;
        }

        int unseenCells() {
            int unseen = 0;
            for (int cell = 0; cell < MAX_CELLS; cell++) {
                unseen += bit(isUnseen(cell));
            }
            return unseen;
        }

        int cellsSeenBy(int set) {
            int cells = 0;
            for (int cell = 0; cell < MAX_CELLS; cell++) {
                cells += bit((watchersOf(cell) & set) != 0);
            }
            return cells;
        }

        /** The least open cell that no post of a set sees, or NONE: the set watches. */
        int leastUnwatched(int set) {
            for (int cell = 0; cell < MAX_CELLS; cell++) {
                if (room.isOpen(cell) && (watchersOf(cell) & set) == 0) {
                    return cell;
                }
            }
            return NONE;
        }

        /** The posts of a set without each of which, singly, it watches. */
        int sparedOf(int set) {
            int spared = 0;
            for (int k = 0; k < MAX_POSTS; k++) {
                int post = 1 << k;
                if ((set & post) != 0 && leastUnwatched(set & ~post) == NONE) {
                    spared |= post;
                }
            }
            return spared;
        }
    }

    /**
     * The sets of the fewest posts that watch, gone through in their order. Cells are bits in two
     * words here (the first 64, the rest): thousands of sets are tried, each at the cost of two.
     */
    private static final class Choice {
        private final View view;
        private final long[] low = new long[MAX_POSTS];
        private final long[] high = new long[MAX_POSTS];
        private final long[] restLow = new long[MAX_POSTS];
        private final long[] restHigh = new long[MAX_POSTS];
        private long openLow;
        private long openHigh;
        private boolean upToDate;
        private int size;
        private int first;
        private int found;

        Choice(View view) {
            this.view = view;
        }

        void outdate() {
            upToDate = false;
        }

        void solve() {
            if (upToDate) {
                return;
            }
            gatherOpen();
            gatherSeen();
            size = NONE;
            first = NONE;
            found = 0;
            for (int n = 0; n <= MAX_POSTS && found == 0; n++) {
                extend(n, 0, 0, 0L, 0L);
                size = found > 0 ? n : NONE;
            }
            upToDate = true;
        }

        private void gatherOpen() {
            openLow = 0L;
            openHigh = 0L;
            for (int cell = 0; cell < MAX_CELLS; cell++) {
                if (view.room.isOpen(cell)) {
                    openLow |= lowBit(cell);
                    openHigh |= highBit(cell);
                }
            }
        }

        /** What each post sees, and what it and all later ones see together. */
        private void gatherSeen() {
            long allLow = 0L;
            long allHigh = 0L;
            for (int k = MAX_POSTS - 1; k >= 0; k--) {
                low[k] = 0L;
                high[k] = 0L;
                for (int cell = 0; cell < MAX_CELLS; cell++) {
                    if ((view.watchersOf(cell) >> k & 1) == 1) {
                        low[k] |= lowBit(cell);
                        high[k] |= highBit(cell);
                    }
                }
                allLow |= low[k];
                allHigh |= high[k];
                restLow[k] = allLow;
                restHigh[k] = allHigh;
            }
        }

        private static long lowBit(int cell) {
            return cell < WORD ? 1L << cell : 0L;
        }

        private static long highBit(int cell) {
            return cell < WORD ? 0L : 1L << cell - WORD;
        }

        private boolean isAll(long seenLow, long seenHigh) {
            return (openLow & ~seenLow) == 0L && (openHigh & ~seenHigh) == 0L;
        }

        /** Tries a set with so many posts more, these from post next on. */
        private void extend(int missing, int next, int set, long seenLow, long seenHigh) {
            if (missing <= 0) {
                if (isAll(seenLow, seenHigh)) {
                    first = found == 0 ? set : first;
                    found++;
                }
                return;
            }
            for (int k = next; k >= 0 && k + missing <= view.room.posts() && k < MAX_POSTS; k++) {
                if (!isAll(seenLow | restLow[k], seenHigh | restHigh[k])) {
                    return;
                }
                extend(missing - 1, k + 1, set | 1 << k, seenLow | low[k], seenHigh | high[k]);
            }
        }
    }

    /** The cells that nobody sees, and the ways through them. */
    private static final class Shade {
        private final View view;
        private final int[] steps = new int[MAX_CELLS];
        private final int[] queue = new int[MAX_CELLS];

        Shade(View view) {
            this.view = view;
        }

        int stepsBetween(int from, int to) {
            Arrays.fill(steps, NOWHERE);
            spread(to);
            int taken = stepsOf(from);
            return taken == NOWHERE ? NONE : taken;
        }

        int cellOnWay(int from, int to, int i) {
            int length = stepsBetween(from, to);
            if (length == NONE || i > length) {
                return NONE;
            }
            int cell = from;
            for (int step = 0; step < i && step < MAX_CELLS; step++) {
                cell = leastNearer(cell);
            }
            return cell;
        }

        int parts() {
            Arrays.fill(steps, NOWHERE);
            int parts = 0;
            for (int cell = 0; cell < MAX_CELLS; cell++) {
                if (view.isUnseen(cell) && steps[cell] == NOWHERE) {
                    spread(cell);
                    parts++;
                }
            }
            return parts;
        }

        private int stepsOf(int cell) {
            return cell >= 0 && cell < MAX_CELLS ? steps[cell] : NOWHERE;
        }

        /** Counts the steps to a cell from all cells of its part that have not been reached yet. */
        private void spread(int start) {
            int waiting = enter(start, 0, 0);
            for (int head = 0; head < waiting && head < MAX_CELLS; head++) {
                int cell = queue[head];
                for (int side = 0; side < SIDES; side++) {
                    waiting = enter(view.room.beside(cell, side), stepsOf(cell) + 1, waiting);
                }
            }
        }

        /** A cell that is new and unseen joins the queue: how many have joined. */
        private int enter(int cell, int taken, int waiting) {
            if (!view.isUnseen(cell) || stepsOf(cell) != NOWHERE || waiting >= MAX_CELLS) {
                return waiting;
            }
            steps[cell] = taken;
            queue[waiting] = cell;
            return waiting + 1;
        }

        private int leastNearer(int cell) {
            for (int side = 0; side < SIDES; side++) {
                int next = view.room.beside(cell, side);
                if (stepsOf(next) != NOWHERE && stepsOf(next) < stepsOf(cell)) {
                    return next;
                }
            }
            return cell;
        }
    }

    /** A tree that shows that no n posts watch; without rows there is none. */
    private static final class Proof {
        private final View view;
        private final int[] cells = new int[MAX_ROWS];
        private final int[] aboves = new int[MAX_ROWS];
        private final int[] comers = new int[MAX_ROWS];
        /** The posts on a row's way, and those that came in the rows just below it, as bits. */
        private final int[] ways = new int[MAX_ROWS];
        private final int[] belows = new int[MAX_ROWS];
        private int rows;
        private int size;

        Proof(View view) {
            this.view = view;
        }

        void end() {
            rows = 0;
        }

        int rows() {
            return rows;
        }

        boolean hasRow(int row) {
            return row >= 0 && row < rows && row < MAX_ROWS;
        }

        int cellOf(int row) {
            return hasRow(row) ? cells[row] : NONE;
        }

        int aboveOf(int row) {
            return hasRow(row) ? aboves[row] : NONE;
        }

        int comerOf(int row) {
            return hasRow(row) ? comers[row] : NONE;
        }

        int rowsBelow(int row) {
            return hasRow(row) ? Integer.bitCount(belows[row]) : 0;
        }

        int replaceCell(int row, int cell) {
            int old = cellOf(row);
            if (hasRow(row)) {
                cells[row] = cell;
            }
            return old;
        }

        /** Counts ahead of growing, as a tree that would be too large must leave the old one. */
        int make(int n) {
            if (rowsNeeded(0, n) > MAX_ROWS) {
                return FULL;
            }
            rows = 0;
            size = n;
            grow(NONE, NONE, 0, n);
            return rows;
        }

        /** The rows from one with this way on, or some number above MAX_ROWS. */
        private int rowsNeeded(int way, int missing) {
            if (missing <= 0) {
                return 1;
            }
            int set = view.watchersOf(view.leastUnwatched(way));
            int needed = 1;
            for (int k = 0; k < MAX_POSTS && needed <= MAX_ROWS; k++) {
                if ((set >> k & 1) == 1) {
                    needed += rowsNeeded(way | 1 << k, missing - 1);
                }
            }
            return needed;
        }

        private void grow(int above, int comer, int way, int missing) {
            if (rows >= MAX_ROWS || missing < 0) {
                return;
            }
            int row = rows;
            rows++;
            int cell = view.leastUnwatched(way);
            int set = missing > 0 ? view.watchersOf(cell) : 0;
            cells[row] = cell;
            aboves[row] = above;
            comers[row] = comer;
            ways[row] = way;
            belows[row] = set;
            for (int k = 0; k < MAX_POSTS; k++) {
                if ((set >> k & 1) == 1) {
                    grow(row, k, way | 1 << k, missing - 1);
                }
            }
        }

        int firstWrongRow() {
            for (int row = 0; row < rows && row < MAX_ROWS; row++) {
                if (!isRight(row)) {
                    return row;
                }
            }
            return NONE;
        }

        private boolean isRight(int row) {
            int set = view.watchersOf(cells[row]);
            int way = ways[row];
            if (!view.room.isOpen(cells[row]) || (set & way) != 0) {
                return false;
            }
            return Integer.bitCount(way) >= size || belows[row] == set;
        }
    }
}
