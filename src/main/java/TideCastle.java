import java.util.Arrays;

/**
 * The sea's side of a castle: a BEACH told in a language, WAVES that take sand by RULES told in a
 * language, ACTS that can be undone, and what can be asked of all that. The document's promises
 * are met one by one by the public methods; the classes inside hold the parts they share.
 */
public final class TideCastle {

    public static final int NONE = -1;

    private static final int NOT_SO = -2;
    private static final int NOT_STANDING = -3;

    private static final int MOST_BYTES = 400;
    private static final int BYTES_A_FEED = 20;
    private static final int MOST_LAWS = 6;
    private static final int MOST_IMAGES = 4;
    private static final int MOST_CELLS = 25;
    private static final int MOST_FLAGS = 6;
    private static final int MOST_WAVES = 12;
    private static final int MOST_LOGS = 10;
    private static final int MOST_UNDONE = 20;

    private static final int SIDES = 4;
    private static final int TOP = 9;
    private static final int LEVELS = 10;
    private static final int LAST_WAVE = 999;
    private static final int FORCE_UNTOLD = 5;
    private static final int HEIGHT_UNTOLD = 2;
    private static final int GREATEST_FORCE_ASKED = 40;
    private static final int WAVES_LOOKED_AT = 60;
    private static final int MOST_AHEAD = 100;
    private static final int MOST_DUG_FOR = 6;
    private static final int MOST_TIDES = 10;
    private static final int MOST_WALLED = 3;
    // So many sets of 3 cells there are of 25.
    private static final int MOST_SETS = 2300;

    private final byte[] tape = new byte[MOST_BYTES];
    private int tapeLength = 0;
    private final Law[] laws = new Law[MOST_LAWS];
    private int lawCount = 0;
    private final Scene scene = new Scene(new Shore());
    private final Scene[] images = new Scene[MOST_IMAGES];
    private final Sea sea = new Sea();
    private final Sand probe = new Sand();
    private final Trials trials = new Trials();
    private final BeachReader beachReader = new BeachReader();
    private final LawReader lawReader = new LawReader();
    private final int[] alike = new int[MOST_CELLS * LEVELS];

    public TideCastle() {
    }

    public int feed(int a, int b, int c, int d, int e) {
        if (tapeLength + BYTES_A_FEED > MOST_BYTES) {
            return NONE;
        }
        appendBytes(a);
        appendBytes(b);
        appendBytes(c);
        appendBytes(d);
        appendBytes(e);
        return tapeLength;
    }

    public int end(int n) {
        if (n < 0 || n > tapeLength) {
            return NONE;
        }
        tapeLength = n;
        return n;
    }

    public int beach() {
        Shore told = beachReader.read(tape, tapeLength);
        tapeLength = 0;
        if (told == null) {
            return NOT_SO - beachReader.fault;
        }
        scene.begin(told);
        return told.cells;
    }

    public int rule() {
        if (lawCount >= MOST_LAWS) {
            return NONE;
        }
        Law told = lawReader.read(tape, tapeLength);
        tapeLength = 0;
        if (told == null) {
            return NOT_SO - lawReader.fault;
        }
        laws[lawCount] = told;
        lawCount++;
        return lawCount - 1;
    }

    public int force(int rule) {
        if (rule < NONE || rule >= lawCount) {
            return NOT_SO;
        }
        int was = scene.inForce;
        scene.inForce = rule;
        return was;
    }

    public int cell(int cell, int what) {
        if (!isCell(cell)) {
            return NONE;
        }
        switch (what) {
            case 0:
                return scene.now.heights[cell];
            case 1:
                return scene.now.wet >> cell & 1;
            case 2:
                return flagsIn(cell);
            case 3:
                return strengthToCome(cell);
            default:
                return NONE;
        }
    }

    public int flag(int flag, int what) {
        if (!isFlag(flag)) {
            return NOT_SO;
        }
        switch (what) {
            case 0:
                return scene.now.flagCells[flag];
            case 1:
                return scene.shore.stands[flag];
            case 2:
                return scene.shore.marks[flag];
            case 3:
                return scene.now.fellIn[flag];
            default:
                return NOT_SO;
        }
    }

    public int forceOf(int wave) {
        if (wave < 0 || noBeach()) {
            return NONE;
        }
        return scene.shore.forceTold(wave);
    }

    public int wave() {
        if (noBeach() || scene.now.next >= LAST_WAVE) {
            return NONE;
        }
        scene.past.keep(scene.now);
        return seaNow().strikeAsTold(scene.now);
    }

    public int spade(int cell, int side) {
        if (!isCell(cell) || side < 0 || side >= SIDES) {
            return NONE;
        }
        int to = scene.now.spadeGoesTo(scene.shore, SIDES * cell + side);
        if (to != NONE) {
            scene.past.keep(scene.now);
            scene.now.carry(cell, to);
        }
        return to;
    }

    public int give(int flag) {
        if (!stands(flag)) {
            return NONE;
        }
        scene.past.keep(scene.now);
        return scene.now.abandon(flag);
    }

    public int move(int flag, int cell) {
        if (!stands(flag) || !isCell(cell)) {
            return NONE;
        }
        int was = scene.now.flagCells[flag];
        if (was == cell) {
            return NONE;
        }
        scene.past.keep(scene.now);
        scene.now.flagCells[flag] = cell;
        return was;
    }

    public int undo() {
        if (scene.past.size == 0) {
            return NOT_SO;
        }
        scene.past.takeBack(scene.now);
        return scene.past.size;
    }

    public int way(int cell, int k) {
        if (!isCell(cell) || k < 0) {
            return NONE;
        }
        if (strengthToCome(cell) < 1) {
            return NOT_SO;
        }
        int length = sea.trace(scene.now.heights, cell, forceToCome());
        return k < length ? sea.way[length - 1 - k] : NOT_SO;
    }

    public int ahead(int cell, int n, int what) {
        if (!isCell(cell) || n < 0 || n > MOST_AHEAD || what < 0 || what > 2) {
            return NONE;
        }
        seaNow();
        probe.copyFrom(scene.now);
        for (int i = 0; i < n; i++) {
            sea.strikeAsTold(probe);
        }
        if (what == 0) {
            return probe.heights[cell];
        }
        return what == 1 ? probe.marks : probe.standing;
    }

    public int falls(int flag) {
        if (!isFlag(flag)) {
            return NONE;
        }
        if (!stands(flag)) {
            return NOT_STANDING;
        }
        seaNow();
        probe.copyFrom(scene.now);
        for (int i = 0; i < WAVES_LOOKED_AT; i++) {
            sea.strikeAsTold(probe);
            if (!probe.hasStanding(flag)) {
                return probe.fellIn[flag];
            }
        }
        return NOT_SO;
    }

    public int dig(int k, int n, int what) {
        if (noBeach() || k < 1 || k > 2 || n < 1 || n > MOST_DUG_FOR || what < 0 || what > 3) {
            return NONE;
        }
        trials.begin(seaNow(), scene.now, n);
        trials.digNone();
        trials.digOne();
        if (k == 2) {
            trials.digTwo();
        }
        switch (what) {
            case 0:
                return trials.best;
            case 1:
                return trials.spades;
            case 2:
                return trials.first;
            default:
                return trials.second;
        }
    }

    public int rival(int n, int what) {
        if (noBeach() || n < 1 || n > MOST_DUG_FOR || what < 0 || what > 1) {
            return NOT_SO;
        }
        trials.begin(seaNow(), scene.now, n);
        trials.playRival();
        return what == 0 ? trials.best : trials.first;
    }

    public int wall(int flag, int what) {
        if (!stands(flag) || what < 0 || what > 1) {
            return NONE;
        }
        int walled = leastWall(scene.now.flagCells[flag], forceToCome());
        if (walled == NONE) {
            return NOT_SO;
        }
        return what == 0 ? Integer.bitCount(walled) : walled;
    }

    public int high(int flag, int cell) {
        if (!stands(flag) || !isCell(cell) || scene.now.flagCells[flag] == cell) {
            return NONE;
        }
        seaNow();
        probe.copyFrom(scene.now);
        int kept = scene.now.flagCells[flag];
        for (int height = scene.now.heights[cell]; height <= TOP; height++) {
            probe.heights[cell] = height;
            sea.spread(probe.heights, forceToCome() + 1);
            if (sea.strength[kept] < 1) {
                return height;
            }
        }
        return NOT_SO;
    }

    public int odds(int flag, int part) {
        if (!stands(flag) || part < 0 || part > 1) {
            return NONE;
        }
        int[] odds = scene.shore.odds;
        int above = 0;
        int below = 0;
        for (int i = 0; i < odds.length; i++) {
            below += odds[i];
            if (odds[i] > 0 && wouldFall(flag, Math.max(0, forceToCome() + i - 1))) {
                above += odds[i];
            }
        }
        int common = commonDivisor(above, below);
        if (common == 0) {
            return NONE;
        }
        return part == 0 ? above / common : below / common;
    }

    public int giveUp(int n, int what) {
        if (noBeach() || n < 1 || n > WAVES_LOOKED_AT || what < 0 || what > 1) {
            return NOT_SO;
        }
        trials.begin(seaNow(), scene.now, n);
        trials.giveEach();
        return what == 0 ? trials.first : trials.best;
    }

    public int borne(int flag) {
        if (!stands(flag)) {
            return NOT_SO;
        }
        for (int force = 0; force <= GREATEST_FORCE_ASKED; force++) {
            if (wouldFall(flag, force)) {
                return force - 1;
            }
        }
        return GREATEST_FORCE_ASKED;
    }

    public int log(int n, int cell, int height) {
        Logs logs = scene.logs;
        if (n == NONE) {
            logs.size = 0;
            return 0;
        }
        if (n < 0 || n > WAVES_LOOKED_AT || !isCell(cell) || height < 0 || height > TOP) {
            return NOT_SO;
        }
        return logs.tell(n, cell, height) ? logs.size : NOT_SO;
    }

    public int ruled(int what) {
        if (noBeach() || what < 0 || what > 1) {
            return -3;
        }
        int many = 0;
        int first = NOT_SO;
        for (int law = NONE; law < lawCount; law++) {
            sea.face(scene.shore, lawOf(law));
            if (scene.logs.agree(sea, probe)) {
                many++;
                first = many == 1 ? law : first;
            }
        }
        return what == 0 ? many : first;
    }

    public int look(int n, int what) {
        if (noBeach() || n < 0 || n > WAVES_LOOKED_AT || what < 0 || what > 1) {
            return NONE;
        }
        if (gatherHeights(n) == 0) {
            return NOT_SO;
        }
        int fewest = lawCount + 2;
        int best = 0;
        for (int cell = 0; cell < scene.shore.cells; cell++) {
            int most = mostAlike(cell);
            if (most < fewest) {
                fewest = most;
                best = cell;
            }
        }
        return what == 0 ? best : fewest;
    }

    public int seed(int x) {
        if (x < 0) {
            return NONE;
        }
        int was = scene.x;
        scene.x = x;
        return was;
    }

    public int tides(int m, int n, int what) {
        if (noBeach() || m < 1 || m > MOST_TIDES || n < 1 || n > WAVES_LOOKED_AT
                || what < 0 || what > 1) {
            return NONE;
        }
        seaNow();
        int marks = 0;
        int fallen = 0;
        int x = scene.x;
        for (int i = 0; i < m; i++) {
            probe.copyFrom(scene.now);
            for (int j = 0; j < n; j++) {
                x = afterDraw(x);
                sea.strike(probe, scene.shore.forceDrawn(probe.next, x / 65536));
            }
            marks += probe.marks - scene.now.marks;
            fallen += Integer.bitCount(scene.now.standing & ~probe.standing);
        }
        return what == 0 ? marks : fallen;
    }

    public int count(int what) {
        switch (what) {
            case 0:
                return scene.shore.columns;
            case 1:
                return scene.shore.rows;
            case 2:
                return scene.shore.flags;
            case 3:
                return scene.shore.waves;
            case 4:
                return lawCount;
            case 5:
                return scene.inForce;
            case 6:
                return scene.now.next;
            case 7:
                return scene.now.marks;
            case 8:
                return scene.now.standing;
            case 9:
                return sandInAll();
            case 10:
                return scene.logs.size;
            case 11:
                return scene.past.size;
            case 12:
                return scene.x;
            case 13:
                return tapeLength;
            default:
                return NONE;
        }
    }

    public int image(int k) {
        if (k < 0 || k >= MOST_IMAGES) {
            return NONE;
        }
        if (images[k] == null) {
            images[k] = new Scene(scene.shore);
        }
        images[k].copyFrom(scene);
        return scene.now.next;
    }

    public int back(int k) {
        if (k < 0 || k >= MOST_IMAGES || images[k] == null) {
            return NONE;
        }
        scene.copyFrom(images[k]);
        return scene.now.next;
    }

    private void appendBytes(int number) {
        for (int shift = 24; shift >= 0 && tapeLength < MOST_BYTES; shift -= 8) {
            tape[tapeLength] = (byte) (number >>> shift);
            tapeLength++;
        }
    }

    private boolean noBeach() {
        return scene.shore.cells == 0;
    }

    private boolean isCell(int cell) {
        return cell >= 0 && cell < scene.shore.cells;
    }

    private boolean isFlag(int flag) {
        return flag >= 0 && flag < scene.shore.flags;
    }

    private boolean stands(int flag) {
        return isFlag(flag) && scene.now.hasStanding(flag);
    }

    private Law lawOf(int law) {
        return law >= 0 && law < lawCount ? laws[law] : null;
    }

    private Sea seaNow() {
        sea.face(scene.shore, lawOf(scene.inForce));
        return sea;
    }

    private int forceToCome() {
        return scene.shore.forceTold(scene.now.next);
    }

    private int strengthToCome(int cell) {
        seaNow().spread(scene.now.heights, forceToCome());
        return sea.strength[cell];
    }

    private int flagsIn(int cell) {
        int bits = 0;
        for (int flag = 0; flag < scene.shore.flags; flag++) {
            if (scene.now.hasStanding(flag) && scene.now.flagCells[flag] == cell) {
                bits |= 1 << flag;
            }
        }
        return bits;
    }

    private int sandInAll() {
        int all = 0;
        for (int cell = 0; cell < scene.shore.cells; cell++) {
            all += scene.now.heights[cell];
        }
        return all;
    }

    private boolean wouldFall(int flag, int force) {
        probe.copyFrom(scene.now);
        seaNow().strike(probe, force);
        return !probe.hasStanding(flag);
    }

    private static int commonDivisor(int a, int b) {
        int more = b;
        int less = a;
        for (int i = 0; i < 64 && less != 0; i++) {
            int rest = more % less;
            more = less;
            less = rest;
        }
        return more;
    }

    private static int afterDraw(int x) {
        return (int) (x * 1103515245L + 12345L & 2147483647L);
    }

    /** The least of the smallest sets of cells that keep the WAVE off, as bits; or NONE. */
    private int leastWall(int kept, int force) {
        if (strengthToCome(kept) < 1) {
            return 0;
        }
        // A set that leaves one way as it is keeps nothing off: only sets that meet it are tried.
        int onWay = waySet(kept, force) & ~(1 << kept);
        if (onWay == 0) {
            return NONE;
        }
        for (int size = 1; size <= MOST_WALLED; size++) {
            int set = (1 << size) - 1;
            // Of sets of one size the order of their bits as numbers is the order asked for.
            for (int i = 0; i < MOST_SETS && set < 1 << scene.shore.cells; i++) {
                if ((set & onWay) != 0 && (set >> kept & 1) == 0 && keepsOff(set, kept, force)) {
                    return set;
                }
                set = nextOfSize(set);
            }
        }
        return NONE;
    }

    private int waySet(int cell, int force) {
        int length = sea.trace(scene.now.heights, cell, force);
        int set = 0;
        for (int i = 0; i < length; i++) {
            set |= 1 << sea.way[i];
        }
        return set;
    }

    private boolean keepsOff(int set, int kept, int force) {
        for (int cell = 0; cell < scene.shore.cells; cell++) {
            probe.heights[cell] = (set >> cell & 1) == 1 ? TOP : scene.now.heights[cell];
        }
        sea.spread(probe.heights, force);
        return sea.strength[kept] < 1;
    }

    /** The next greater number with as many bits. */
    private static int nextOfSize(int set) {
        int carried = set + (set & -set);
        return carried | (carried ^ set) >>> 2 + Integer.numberOfTrailingZeros(set);
    }

    /** Counts HEIGHTS ahead of the n-th WAVE by the RULES that are so: how many these are. */
    private int gatherHeights(int n) {
        for (int i = 0; i < alike.length; i++) {
            alike[i] = 0;
        }
        int many = 0;
        for (int law = NONE; law < lawCount; law++) {
            sea.face(scene.shore, lawOf(law));
            if (scene.logs.agree(sea, probe)) {
                many++;
                addHeights(n);
            }
        }
        return many;
    }

    private void addHeights(int n) {
        probe.layOut(scene.shore);
        for (int i = 0; i < n; i++) {
            sea.strikeAsTold(probe);
        }
        for (int cell = 0; cell < scene.shore.cells; cell++) {
            alike[LEVELS * cell + probe.heights[cell]]++;
        }
    }

    private int mostAlike(int cell) {
        int most = 0;
        for (int height = 0; height < LEVELS; height++) {
            most = Math.max(most, alike[LEVELS * cell + height]);
        }
        return most;
    }

    /** A BEACH as told; it never changes once it is read. One of no cells is no BEACH. */
    private static final class Shore {
        int columns = 0;
        int rows = 0;
        int cells = 0;
        int flags = 0;
        int waves = 0;
        final int[] heights = new int[MOST_CELLS];
        final int[] flagCells = new int[MOST_FLAGS];
        final int[] stands = new int[MOST_FLAGS];
        final int[] marks = new int[MOST_FLAGS];
        final int[] forces = new int[MOST_WAVES];
        final int[] odds = {0, 1, 0};
        final int[] beside = new int[SIDES * MOST_CELLS];

        void layCells(int wide, int deep) {
            columns = wide;
            rows = deep;
            cells = wide * deep;
            for (int cell = 0; cell < cells; cell++) {
                heights[cell] = HEIGHT_UNTOLD;
                int column = cell % wide;
                beside[SIDES * cell] = cell >= wide ? cell - wide : NONE;
                beside[SIDES * cell + 1] = column < wide - 1 ? cell + 1 : NONE;
                beside[SIDES * cell + 2] = cell + wide < cells ? cell + wide : NONE;
                beside[SIDES * cell + 3] = column > 0 ? cell - 1 : NONE;
            }
        }

        int forceTold(int wave) {
            return waves == 0 ? FORCE_UNTOLD : forces[wave % waves];
        }

        int forceDrawn(int wave, int draw) {
            int told = forceTold(wave);
            int all = odds[0] + odds[1] + odds[2];
            int drawn = all == 0 ? 0 : draw % all;
            if (drawn < odds[0]) {
                return Math.max(0, told - 1);
            }
            return drawn < odds[0] + odds[1] ? told : told + 1;
        }

        int marksOf(int flagSet) {
            int sum = 0;
            for (int flag = 0; flag < flags; flag++) {
                if ((flagSet >> flag & 1) == 1) {
                    sum += marks[flag];
                }
            }
            return sum;
        }
    }

    /** What WAVES and other ACTS change. */
    private static final class Sand {
        final int[] heights = new int[MOST_CELLS];
        final int[] flagCells = new int[MOST_FLAGS];
        final int[] fellIn = new int[MOST_FLAGS];
        int standing = 0;
        int wet = 0;
        int marks = 0;
        int next = 0;

        void layOut(Shore shore) {
            System.arraycopy(shore.heights, 0, heights, 0, MOST_CELLS);
            System.arraycopy(shore.flagCells, 0, flagCells, 0, MOST_FLAGS);
            for (int flag = 0; flag < MOST_FLAGS; flag++) {
                fellIn[flag] = NONE;
            }
            standing = (1 << shore.flags) - 1;
            wet = 0;
            marks = 0;
            next = 0;
        }

        void copyFrom(Sand other) {
            System.arraycopy(other.heights, 0, heights, 0, MOST_CELLS);
            System.arraycopy(other.flagCells, 0, flagCells, 0, MOST_FLAGS);
            System.arraycopy(other.fellIn, 0, fellIn, 0, MOST_FLAGS);
            standing = other.standing;
            wet = other.wet;
            marks = other.marks;
            next = other.next;
        }

        boolean hasStanding(int flag) {
            return (standing >> flag & 1) == 1;
        }

        /** The cell to which a SPADE (4 times the cell and the SIDE) carries sand, or NONE. */
        int spadeGoesTo(Shore shore, int spade) {
            int to = shore.beside[spade];
            if (to == NONE || heights[spade / SIDES] == 0 || heights[to] >= TOP) {
                return NONE;
            }
            return to;
        }

        void carry(int from, int to) {
            heights[from]--;
            heights[to]++;
        }

        void fell(int flag) {
            standing &= ~(1 << flag);
            fellIn[flag] = next;
        }

        int abandon(int flag) {
            int cell = flagCells[flag];
            fell(flag);
            heights[cell] = Math.min(TOP, heights[cell] + 1);
            return heights[cell];
        }
    }

    /** How all was ahead of the last ACTS; rows are made when first needed and used again. */
    private static final class Past {
        final Sand[] rows = new Sand[MOST_UNDONE];
        int size = 0;

        void keep(Sand sand) {
            if (size == MOST_UNDONE) {
                forgetFirst();
            }
            put(size, sand);
            size++;
        }

        void takeBack(Sand sand) {
            if (size > 0 && rows[size - 1] != null) {
                size--;
                sand.copyFrom(rows[size]);
            }
        }

        void copyFrom(Past other) {
            size = other.size;
            for (int i = 0; i < size; i++) {
                put(i, other.rows[i]);
            }
        }

        private void put(int at, Sand sand) {
            if (rows[at] == null) {
                rows[at] = new Sand();
            }
            if (sand != null) {
                rows[at].copyFrom(sand);
            }
        }

        private void forgetFirst() {
            Sand first = rows[0];
            for (int i = 1; i < size; i++) {
                rows[i - 1] = rows[i];
            }
            size--;
            rows[size] = first;
        }
    }

    /** HEIGHTS that were told. */
    private static final class Logs {
        final int[] waves = new int[MOST_LOGS];
        final int[] cells = new int[MOST_LOGS];
        final int[] heights = new int[MOST_LOGS];
        int size = 0;

        boolean tell(int wave, int cell, int height) {
            if (size >= MOST_LOGS) {
                return false;
            }
            waves[size] = wave;
            cells[size] = cell;
            heights[size] = height;
            size++;
            return true;
        }

        void copyFrom(Logs other) {
            System.arraycopy(other.waves, 0, waves, 0, MOST_LOGS);
            System.arraycopy(other.cells, 0, cells, 0, MOST_LOGS);
            System.arraycopy(other.heights, 0, heights, 0, MOST_LOGS);
            size = other.size;
        }

        /** Whether all LOGS are so from the begin on, by the RULE that the sea faces. */
        boolean agree(Sea sea, Sand probe) {
            probe.layOut(sea.shore);
            int last = lastWave();
            for (int wave = 0; wave <= last; wave++) {
                if (!agreeAhead(wave, probe.heights)) {
                    return false;
                }
                if (wave < last) {
                    sea.strikeAsTold(probe);
                }
            }
            return true;
        }

        private int lastWave() {
            int last = NONE;
            for (int i = 0; i < size; i++) {
                last = Math.max(last, waves[i]);
            }
            return last;
        }

        private boolean agreeAhead(int wave, int[] seen) {
            for (int i = 0; i < size; i++) {
                if (waves[i] == wave && seen[cells[i]] != heights[i]) {
                    return false;
                }
            }
            return true;
        }
    }

    /** All that an IMAGE keeps. */
    private static final class Scene {
        Shore shore;
        final Sand now = new Sand();
        final Past past = new Past();
        final Logs logs = new Logs();
        int inForce = NONE;
        int x = 0;

        Scene(Shore shore) {
            this.shore = shore;
        }

        void begin(Shore told) {
            shore = told;
            now.layOut(told);
            past.size = 0;
            logs.size = 0;
        }

        void copyFrom(Scene other) {
            shore = other.shore;
            now.copyFrom(other.now);
            past.copyFrom(other.past);
            logs.copyFrom(other.logs);
            inForce = other.inForce;
            x = other.x;
        }
    }

    /** WAVES over a BEACH, by a RULE; its rows are used again by every WAVE. */
    private static final class Sea {
        private static final int STRONG = 3;
        // A cell waits once at a time and there are 25: a ring of 32 never overtakes itself.
        private static final int RING = 31;
        // Each wait of a cell follows a gain in STRENGTH, of which there are 41 a cell at most.
        private static final int MOST_TURNS = 2000;

        Shore shore = null;
        Law law = null;
        final int[] strength = new int[MOST_CELLS];
        final int[] way = new int[MOST_CELLS];
        private final int[] taken = new int[MOST_CELLS];
        private final int[] ring = new int[RING + 1];
        private final long[] words = new long[Law.WORD_COUNT];
        private final long[] stack = new long[Law.MOST_PARTS];

        void face(Shore newShore, Law newLaw) {
            shore = newShore;
            law = newLaw;
        }

        /** Finds the STRENGTH of a WAVE in each cell. */
        void spread(int[] heights, int force) {
            int cells = shore.cells;
            int tail = 0;
            int waiting = 0;
            for (int cell = 0; cell < cells; cell++) {
                int fromSea = cell >= cells - shore.columns ? force - 1 - heights[cell] : 0;
                strength[cell] = Math.max(0, fromSea);
                if (fromSea > 1) {
                    ring[tail & RING] = cell;
                    tail++;
                    waiting |= 1 << cell;
                }
            }
            int head = 0;
            for (int turn = 0; head < tail && turn < MOST_TURNS; turn++) {
                int from = ring[head & RING];
                head++;
                waiting &= ~(1 << from);
                for (int side = 0; side < SIDES; side++) {
                    int to = shore.beside[SIDES * from + side];
                    int comes = to == NONE ? 0 : carried(heights, from, to);
                    if (to != NONE && comes > strength[to]) {
                        strength[to] = comes;
                        if (comes > 1 && (waiting >> to & 1) == 0) {
                            ring[tail & RING] = to;
                            tail++;
                            waiting |= 1 << to;
                        }
                    }
                }
            }
        }

        private int carried(int[] heights, int from, int to) {
            int climb = heights[to] - heights[from];
            return climb > 0 ? strength[from] - 1 - climb : strength[from] - 1;
        }

        /** Lays the WAY from a cell back to the sea, after a spread: how many cells it has. */
        int trace(int[] heights, int cell, int force) {
            int length = 0;
            int at = cell;
            while (at != NONE && length < MOST_CELLS) {
                way[length] = at;
                length++;
                at = cameFrom(heights, at, force);
            }
            return length;
        }

        private int cameFrom(int[] heights, int cell, int force) {
            if (cell >= shore.cells - shore.columns
                    && force - 1 - heights[cell] == strength[cell]) {
                return NONE;
            }
            int least = NONE;
            for (int side = 0; side < SIDES; side++) {
                int from = shore.beside[SIDES * cell + side];
                if (from != NONE && (least == NONE || from < least)
                        && carried(heights, from, cell) == strength[cell]) {
                    least = from;
                }
            }
            return least;
        }

        int strikeAsTold(Sand sand) {
            return strike(sand, shore.forceTold(sand.next));
        }

        /** A WAVE: to how many cells it came. */
        int strike(Sand sand, int force) {
            spread(sand.heights, force);
            int came = 0;
            for (int cell = 0; cell < shore.cells; cell++) {
                taken[cell] = 0;
                if (strength[cell] > 0) {
                    came |= 1 << cell;
                    if (law != null) {
                        taken[cell] = law.taken(wordsOf(sand, cell, force), stack);
                    } else if (strength[cell] >= STRONG) {
                        taken[cell] = 1;
                    }
                }
            }
            for (int cell = 0; cell < shore.cells; cell++) {
                sand.heights[cell] = Math.max(0, sand.heights[cell] - taken[cell]);
            }
            fellFlags(sand);
            sand.marks += shore.marksOf(sand.standing);
            sand.wet = came;
            sand.next = Math.min(LAST_WAVE, sand.next + 1);
            return Integer.bitCount(came);
        }

        private void fellFlags(Sand sand) {
            for (int flag = 0; flag < shore.flags; flag++) {
                int cell = sand.flagCells[flag];
                if (sand.hasStanding(flag)
                        && (strength[cell] >= shore.stands[flag] || sand.heights[cell] == 0)) {
                    sand.fell(flag);
                }
            }
        }

        private long[] wordsOf(Sand sand, int cell, int force) {
            words[Law.CELL] = cell;
            words[Law.HEIGHT] = sand.heights[cell];
            words[Law.STRENGTH] = strength[cell];
            words[Law.WET] = sand.wet >> cell & 1;
            words[Law.FORCE] = force;
            words[Law.WAVE] = sand.next;
            if (law.asks(Law.FLAGS)) {
                countFlags(sand, cell);
            }
            if (law.asks(Law.LOW) || law.asks(Law.HIGH)) {
                findLowAndHigh(sand, cell);
            }
            return words;
        }

        private void countFlags(Sand sand, int cell) {
            int many = 0;
            for (int flag = 0; flag < shore.flags; flag++) {
                if (sand.hasStanding(flag) && sand.flagCells[flag] == cell) {
                    many++;
                }
            }
            words[Law.FLAGS] = many;
        }

        private void findLowAndHigh(Sand sand, int cell) {
            int low = TOP;
            int high = 0;
            for (int side = 0; side < SIDES; side++) {
                int other = shore.beside[SIDES * cell + side];
                if (other != NONE) {
                    low = Math.min(low, sand.heights[other]);
                    high = Math.max(high, sand.heights[other]);
                }
            }
            words[Law.LOW] = low;
            words[Law.HIGH] = high;
        }
    }

    /** A RULE as steps for a stack: the SUM of a CLAUSE, its TEST, signs behind values. */
    private static final class Law {
        static final String WORDS = "cell height strength wet force wave flags low high ";
        static final int CELL = 0;
        static final int HEIGHT = 1;
        static final int STRENGTH = 2;
        static final int WET = 3;
        static final int FORCE = 4;
        static final int WAVE = 5;
        static final int FLAGS = 6;
        static final int LOW = 7;
        static final int HIGH = 8;
        static final int WORD_COUNT = 9;

        static final int MOST_PARTS = 60;
        static final int MOST_TAKEN = 3;

        // A step of 0 or more is a NUMBER; the WORD w is the step -1 - w; these are the others.
        static final int LAST_WORD = -WORD_COUNT;
        static final int PLUS = -10;
        static final int MINUS = -11;
        static final int TIMES = -12;
        static final int OVER = -13;
        static final int REST = -14;
        static final int BELOW = -15;
        static final int AT_MOST = -16;
        static final int SAME = -17;
        static final int AT_LEAST = -18;
        static final int ABOVE = -19;
        static final int AND = -20;
        static final int OR = -21;
        static final int NOT = -22;

        private final int[] steps;
        // Where the SUM and where the TEST of each CLAUSE begins; behind these where the last ends.
        private final int[] starts;
        private final int asked;

        Law(int[] steps, int[] starts) {
            this.steps = steps;
            this.starts = starts;
            int words = 0;
            for (int i = 0; i < steps.length; i++) {
                if (steps[i] < 0 && steps[i] >= LAST_WORD) {
                    words |= 1 << -1 - steps[i];
                }
            }
            this.asked = words;
        }

        boolean asks(int word) {
            return (asked >> word & 1) == 1;
        }

        int taken(long[] words, long[] stack) {
            for (int i = 0; i + 2 < starts.length; i += 2) {
                int test = starts[i + 1];
                int behind = starts[i + 2];
                if (test == behind || worth(test, behind, words, stack) != 0) {
                    long sum = worth(starts[i], test, words, stack);
                    return (int) Math.max(0, Math.min(MOST_TAKEN, sum));
                }
            }
            return 0;
        }

        private long worth(int from, int behind, long[] words, long[] stack) {
            int size = 0;
            for (int i = from; i < behind; i++) {
                int step = steps[i];
                if (step >= LAST_WORD) {
                    if (size < stack.length) {
                        stack[size] = step >= 0 ? step : words[-1 - step];
                        size++;
                    }
                } else if (step == NOT) {
                    if (size > 0) {
                        stack[size - 1] = 1 - stack[size - 1];
                    }
                } else if (size > 1) {
                    size--;
                    stack[size - 1] = joined(step, stack[size - 1], stack[size]);
                }
            }
            return size > 0 ? stack[0] : 0;
        }

        private static long joined(int step, long a, long b) {
            switch (step) {
                case PLUS:
                    return a + b;
                case MINUS:
                    return a - b;
                case TIMES:
                    return a * b;
                case OVER:
                    return b == 0 ? 0 : a / b;
                case REST:
                    return b == 0 ? 0 : a % b;
                case BELOW:
                    return a < b ? 1 : 0;
                case AT_MOST:
                    return a <= b ? 1 : 0;
                case SAME:
                    return a == b ? 1 : 0;
                case AT_LEAST:
                    return a >= b ? 1 : 0;
                case ABOVE:
                    return a > b ? 1 : 0;
                case AND:
                    return a & b;
                case OR:
                    return a | b;
                default:
                    return 0;
            }
        }
    }

    /** What may be dug or given up now, tried out against the WAVES to come. */
    private static final class Trials {
        private static final int NO_ROOF = 2147483647;

        private Sea sea = null;
        private Shore shore = null;
        private final Sand trial = new Sand();
        private final Sand probe = new Sand();
        private int waves = 0;
        private int mostMarks = 0;
        private int lastReply = NONE;
        int best = NONE;
        int spades = 0;
        int first = NONE;
        int second = NONE;

        void begin(Sea newSea, Sand now, int n) {
            sea = newSea;
            shore = newSea.shore;
            trial.copyFrom(now);
            waves = n;
            mostMarks = now.marks + n * shore.marksOf(now.standing);
            lastReply = NONE;
            best = NONE;
            spades = 0;
            first = NONE;
            second = NONE;
        }

        void digNone() {
            noteRow(0, NOT_SO, NOT_SO);
        }

        void digOne() {
            for (int a = 0; a < SIDES * shore.cells && best < mostMarks; a++) {
                int to = trial.spadeGoesTo(shore, a);
                if (to != NONE) {
                    trial.carry(a / SIDES, to);
                    noteRow(1, a, NOT_SO);
                    trial.carry(to, a / SIDES);
                }
            }
        }

        void digTwo() {
            for (int a = 0; a < SIDES * shore.cells && best < mostMarks; a++) {
                int over = trial.spadeGoesTo(shore, a);
                if (over == NONE) {
                    continue;
                }
                trial.carry(a / SIDES, over);
                for (int b = 0; b < SIDES * shore.cells; b++) {
                    int to = trial.spadeGoesTo(shore, b);
                    if (to != NONE && (b > a || meets(a, over, b, to))) {
                        trial.carry(b / SIDES, to);
                        noteRow(2, a, b);
                        trial.carry(to, b / SIDES);
                    }
                }
                trial.carry(over, a / SIDES);
            }
        }

        /** Two SPADES that share no cell leave the same sand in either order: one is enough. */
        private static boolean meets(int a, int over, int b, int to) {
            int from = b / SIDES;
            return from == a / SIDES || from == over || to == a / SIDES || to == over;
        }

        /** Rows come in their order, the short ones first, so that only a better one is noted. */
        private void noteRow(int many, int a, int b) {
            int marks = marksAhead(best, NO_ROOF);
            if (marks > best) {
                best = marks;
                spades = many;
                first = a;
                second = b;
            }
        }

        void playRival() {
            best = leastByReply(NONE);
            for (int a = 0; a < SIDES * shore.cells && best < mostMarks; a++) {
                int to = trial.spadeGoesTo(shore, a);
                if (to != NONE) {
                    trial.carry(a / SIDES, to);
                    int least = leastByReply(best);
                    trial.carry(to, a / SIDES);
                    if (least > best) {
                        best = least;
                        first = a;
                    }
                }
            }
        }

        /** MARKS by the rival's best SPADE; any number up to the floor, if not above it. */
        private int leastByReply(int floor) {
            int least = marksAhead(floor, NO_ROOF);
            for (int i = NONE; i < SIDES * shore.cells && least > floor; i++) {
                // What answered the last SPADE best often answers this one, too: it is tried first.
                int b = i == NONE ? lastReply : i;
                int to = b == NONE ? NONE : trial.spadeGoesTo(shore, b);
                if (to != NONE) {
                    trial.carry(b / SIDES, to);
                    int marks = marksAhead(floor, least);
                    trial.carry(to, b / SIDES);
                    if (marks < least) {
                        least = marks;
                        lastReply = b;
                    }
                }
            }
            return least;
        }

        void giveEach() {
            best = marksAhead(NONE, NO_ROOF);
            for (int flag = 0; flag < shore.flags && best < mostMarks; flag++) {
                if (trial.hasStanding(flag)) {
                    int cell = trial.flagCells[flag];
                    int height = trial.heights[cell];
                    trial.abandon(flag);
                    int marks = marksAhead(best, NO_ROOF);
                    trial.heights[cell] = height;
                    trial.standing |= 1 << flag;
                    if (marks > best) {
                        best = marks;
                        first = flag;
                    }
                }
            }
        }

        /** MARKS after the WAVES; if not above the floor, or not below the roof, any such. */
        private int marksAhead(int floor, int roof) {
            probe.copyFrom(trial);
            for (int i = 0; i < waves; i++) {
                int most = probe.marks + (waves - i) * shore.marksOf(probe.standing);
                if (most <= floor || most == probe.marks) {
                    return most;
                }
                if (probe.marks >= roof) {
                    return probe.marks;
                }
                sea.strike(probe, shore.forceTold(probe.next));
            }
            return probe.marks;
        }
    }

    /** Goes along a text, byte by byte, up to its first FAULT. */
    private abstract static class Reader {
        static final int CANNOT_STAND = 0;
        static final int NOT_AS_TOLD = 1;
        static final int TOO_DEEP = 2;
        static final int PART_TOO_MANY = 3;
        static final int CLAUSE_TOO_MANY = 4;
        private static final int MOST_DIGITS = 5;

        private byte[] text = null;
        private int length = 0;
        int place = 0;
        int numberPlace = 0;
        int fault = 0;

        final void open(byte[] newText, int newLength) {
            text = newText;
            length = newText == null ? 0 : Math.min(newLength, newText.length);
            place = 0;
            numberPlace = 0;
            fault = 0;
        }

        final void fail(int at, int kind) {
            if (fault == 0) {
                fault = 1 + 8 * at + kind;
            }
        }

        final int byteAt(int at) {
            return at >= 0 && at < length ? text[at] & 255 : NONE;
        }

        final boolean isDigit(int at) {
            int sign = byteAt(at);
            return sign >= '0' && sign <= '9';
        }

        final void skipBlanks() {
            while (place < length && text[place] == ' ') {
                place++;
            }
        }

        /** Goes behind the sign, if it stands next. */
        final boolean readSign(char sign) {
            skipBlanks();
            if (byteAt(place) != sign) {
                return false;
            }
            place++;
            return true;
        }

        /** Goes behind the word that stands next, if it is in a list, each with a blank behind. */
        final int readWord(String words) {
            skipBlanks();
            int behind = place;
            while (behind < length && text[behind] >= 'a' && text[behind] <= 'z') {
                behind++;
            }
            int number = 0;
            int like = 0;
            for (int i = 0; i < words.length(); i++) {
                char sign = words.charAt(i);
                if (sign != ' ') {
                    boolean same = like != NONE && byteAt(place + like) == sign;
                    like = same ? like + 1 : NONE;
                } else if (like == behind - place) {
                    place = behind;
                    return number;
                } else {
                    number++;
                    like = 0;
                }
            }
            return NONE;
        }

        /** The NUMBER that stands next; NONE with a FAULT, if there is none from least to most. */
        final int readNumber(int least, int most) {
            if (fault != 0) {
                return NONE;
            }
            skipBlanks();
            numberPlace = place;
            int number = 0;
            while (place < length && text[place] >= '0' && text[place] <= '9') {
                if (place - numberPlace < MOST_DIGITS) {
                    number = 10 * number + text[place] - '0';
                }
                place++;
            }
            int digits = place - numberPlace;
            if (digits == 0) {
                fail(numberPlace, CANNOT_STAND);
            } else if (digits > MOST_DIGITS || number < least || number > most) {
                fail(numberPlace, NOT_AS_TOLD);
            }
            return fault == 0 ? number : NONE;
        }

        /** Whether another CLAUSE is to follow; a FAULT, if neither it nor the end does. */
        final boolean goesOn() {
            if (fault != 0 || readSign(';')) {
                return fault == 0;
            }
            if (place < length) {
                fail(place, CANNOT_STAND);
            }
            return false;
        }
    }

    private static final class BeachReader extends Reader {
        private static final String CLAUSES = "beach row flag wave swell ";
        private static final int BEACH = 0;
        private static final int ROW = 1;
        private static final int FLAG = 2;
        private static final int WAVE = 3;
        private static final int SWELL = 4;
        private static final int MOST_CLAUSES = 40;
        private static final int LEAST_WIDE = 2;
        private static final int MOST_WIDE = 5;
        private static final int MOST_STAND = 20;
        private static final int MOST_MARK = 50;
        private static final int MOST_FORCE = 20;
        private static final int MOST_ODDS = 9;

        private Shore shore = null;
        private int rowsTold = 0;
        private boolean swellTold = false;

        /** The BEACH that the text tells, or null: the FAULT says why. */
        Shore read(byte[] text, int length) {
            open(text, length);
            shore = new Shore();
            rowsTold = 0;
            swellTold = false;
            boolean more = true;
            for (int clause = 0; more && clause <= MOST_CLAUSES; clause++) {
                readClause(clause);
                more = goesOn();
            }
            return fault == 0 ? shore : null;
        }

        private void readClause(int clause) {
            skipBlanks();
            int start = place;
            int word = readWord(CLAUSES);
            if (word == NONE) {
                fail(start, CANNOT_STAND);
            } else if (isTooMany(clause, word)) {
                fail(start, CLAUSE_TOO_MANY);
            } else {
                readRest(word);
            }
        }

        private boolean isTooMany(int clause, int word) {
            if (clause >= MOST_CLAUSES || (word == BEACH) != (clause == 0)) {
                return true;
            }
            switch (word) {
                case ROW:
                    return rowsTold >= shore.rows;
                case FLAG:
                    return shore.flags >= MOST_FLAGS;
                case WAVE:
                    return shore.waves >= MOST_WAVES;
                case SWELL:
                    return swellTold;
                default:
                    return false;
            }
        }

        private void readRest(int word) {
            switch (word) {
                case BEACH:
                    readSize();
                    break;
                case ROW:
                    readRow();
                    break;
                case FLAG:
                    readFlag();
                    break;
                case WAVE:
                    readWave();
                    break;
                default:
                    readSwell();
                    break;
            }
        }

        private void readSize() {
            int columns = readNumber(LEAST_WIDE, MOST_WIDE);
            int rows = readNumber(LEAST_WIDE, MOST_WIDE);
            if (fault == 0) {
                shore.layCells(columns, rows);
            }
        }

        private void readRow() {
            skipBlanks();
            for (int column = 0; column < shore.columns && fault == 0; column++) {
                if (isDigit(place)) {
                    shore.heights[shore.columns * rowsTold + column] = byteAt(place) - '0';
                    place++;
                } else {
                    fail(place, CANNOT_STAND);
                }
            }
            rowsTold++;
        }

        private void readFlag() {
            int cell = readNumber(0, shore.cells - 1);
            int stand = readNumber(1, MOST_STAND);
            int mark = readNumber(1, MOST_MARK);
            if (fault == 0) {
                shore.flagCells[shore.flags] = cell;
                shore.stands[shore.flags] = stand;
                shore.marks[shore.flags] = mark;
                shore.flags++;
            }
        }

        private void readWave() {
            int force = readNumber(0, MOST_FORCE);
            if (fault == 0) {
                shore.forces[shore.waves] = force;
                shore.waves++;
            }
        }

        private void readSwell() {
            int all = 0;
            for (int i = 0; i < shore.odds.length; i++) {
                shore.odds[i] = readNumber(0, MOST_ODDS);
                all += shore.odds[i];
            }
            if (fault == 0 && all == 0) {
                fail(numberPlace, NOT_AS_TOLD);
            }
            swellTold = true;
        }
    }

    private static final class LawReader extends Reader {
        private static final int MOST_CLAUSES = 12;
        private static final int MOST_DEEP = 10;
        private static final int GREATEST_NUMBER = 99999;
        // What is open around a FACT: a 'not', or a bracket with what waited ahead of it.
        private static final int OPEN_NOT = -1;
        private static final int AND_WAITS = 1;
        private static final int OR_WAITS = 2;

        private final int[] steps = new int[MOST_BYTES];
        private final int[] starts = new int[2 * MOST_CLAUSES + 1];
        private final int[] opened = new int[MOST_DEEP];
        private int size = 0;
        private int parts = 0;
        private int depth = 0;
        private int waits = 0;

        /** The RULE that the text tells, or null: the FAULT says why. */
        Law read(byte[] text, int length) {
            open(text, length);
            size = 0;
            parts = 0;
            int clauses = 0;
            boolean more = true;
            while (more && clauses <= MOST_CLAUSES) {
                readClause(clauses);
                clauses++;
                more = goesOn();
            }
            if (fault != 0 || clauses > MOST_CLAUSES) {
                return null;
            }
            starts[2 * clauses] = size;
            return new Law(Arrays.copyOf(steps, size),
                    Arrays.copyOf(starts, 2 * clauses + 1));
        }

        private void readClause(int clause) {
            skipBlanks();
            int start = place;
            if (readWord("take ") == NONE) {
                fail(start, CANNOT_STAND);
            } else if (clause >= MOST_CLAUSES) {
                fail(start, CLAUSE_TOO_MANY);
            } else {
                starts[2 * clause] = size;
                readSum();
                starts[2 * clause + 1] = size;
                if (fault == 0 && readWord("if ") != NONE) {
                    readTest();
                }
            }
        }

        private void readSum() {
            readValue();
            int waiting = 0;
            for (int i = 0; i < MOST_BYTES && fault == 0; i++) {
                int strong = readTimes();
                int weak = strong == 0 ? readPlus() : 0;
                if (strong != 0) {
                    readValue();
                    emit(strong);
                } else if (weak != 0) {
                    emit(waiting);
                    waiting = weak;
                    readValue();
                } else {
                    break;
                }
            }
            emit(waiting);
        }

        private int readTimes() {
            if (readSign('*')) {
                return Law.TIMES;
            }
            if (readSign('/')) {
                return Law.OVER;
            }
            return readSign('%') ? Law.REST : 0;
        }

        private int readPlus() {
            if (readSign('+')) {
                return Law.PLUS;
            }
            return readSign('-') ? Law.MINUS : 0;
        }

        private void readValue() {
            if (fault != 0) {
                return;
            }
            skipBlanks();
            int start = place;
            if (isDigit(start)) {
                int number = readNumber(0, GREATEST_NUMBER);
                countPart(start);
                push(number);
                return;
            }
            int word = readWord(Law.WORDS);
            if (word == NONE) {
                fail(start, CANNOT_STAND);
            }
            countPart(start);
            push(-1 - word);
        }

        private void countPart(int at) {
            parts++;
            if (parts > Law.MOST_PARTS) {
                fail(at, PART_TOO_MANY);
            }
        }

        /** A step that joins what stands ahead of it; 0 is none, where none waits. */
        private void emit(int step) {
            if (step != 0) {
                push(step);
            }
        }

        private void push(int step) {
            if (fault == 0 && size < steps.length) {
                steps[size] = step;
                size++;
            }
        }

        private void readTest() {
            depth = 0;
            waits = 0;
            boolean more = true;
            for (int i = 0; i < MOST_BYTES && more; i++) {
                openFacts();
                readSum();
                int sign = readComparer();
                readSum();
                emit(sign);
                more = closeFacts();
            }
        }

        /** Goes behind each 'not' and '[' ahead of a SUM. */
        private void openFacts() {
            for (int i = 0; i < MOST_BYTES && fault == 0; i++) {
                skipBlanks();
                int start = place;
                boolean bracket = readSign('[');
                if (!bracket && readWord("not ") == NONE) {
                    return;
                }
                if (depth >= MOST_DEEP) {
                    fail(start, TOO_DEEP);
                    return;
                }
                opened[depth] = bracket ? waits : OPEN_NOT;
                waits = bracket ? 0 : waits;
                depth++;
            }
        }

        /** The SIGN of a FACT that stands next, as a step; 0 with a FAULT, if there is none. */
        private int readComparer() {
            skipBlanks();
            int start = place;
            boolean below = readSign('<');
            boolean above = !below && readSign('>');
            // The second byte of a SIGN stands right behind the first, without a blank.
            boolean same = byteAt(place) == '=';
            if (!below && !above && !same) {
                fail(start, CANNOT_STAND);
                return 0;
            }
            place += same ? 1 : 0;
            countPart(start);
            if (below) {
                return same ? Law.AT_MOST : Law.BELOW;
            }
            if (above) {
                return same ? Law.AT_LEAST : Law.ABOVE;
            }
            return Law.SAME;
        }

        /** Goes on behind a FACT, out of brackets that end there: whether another FACT follows. */
        private boolean closeFacts() {
            for (int i = 0; i <= MOST_DEEP && fault == 0; i++) {
                endFact();
                if (readWord("and ") != NONE) {
                    waits |= AND_WAITS;
                    return true;
                }
                boolean or = readWord("or ") != NONE;
                emit((waits & OR_WAITS) != 0 ? Law.OR : 0);
                if (or) {
                    waits = OR_WAITS;
                    return true;
                }
                if (depth == 0) {
                    return false;
                }
                if (!readSign(']')) {
                    fail(place, CANNOT_STAND);
                    return false;
                }
                depth--;
                waits = opened[depth];
            }
            return false;
        }

        private void endFact() {
            while (depth > 0 && opened[depth - 1] == OPEN_NOT) {
                depth--;
                emit(Law.NOT);
            }
            if ((waits & AND_WAITS) != 0) {
                emit(Law.AND);
                waits &= ~AND_WAITS;
            }
        }
    }
}
