/** A drive of gravel, the feet that come up it, and what is heard of them: shared/DOC.md says it all. */
public final class GravelHasTheLastWord {
    public static final int NONE = -1;

    private static final int BAD = -2;
    private static final int OTHER = -3;
    private static final int NOTHING = -4;
    private static final int STUCK = -5;
    private static final int FULL = -6;
    private static final int FINE = 0;

    private static final int FOOT = 0;
    private static final int BOOT = 1;
    private static final int SOFT = 2;
    private static final int SPUR = 3;
    private static final int CAT = 4;
    private static final int LAME = 5;
    private static final int KINDS = 6;
    private static final int[] KIND_ABOVE = {-1, 0, 0, 1, 2, 0};

    private static final int LEAST_SIDE = 2;
    private static final int MOST_SIDE = 6;
    private static final int MOST_CELLS = 36;
    private static final int MOST_FEET = 8;
    private static final int MOST_GRAVEL = 9;
    private static final int MOST_RAIN = 9;
    private static final int MOST_EAR = 99;
    private static final int MOST_WEIGHT = 9;
    private static final int MOST_LIKELY = 99;
    private static final int MOST_ARRIVALS = 60;
    private static final int MOST_CHANGED = 2;
    private static final int SHELF_COUNT = 8;
    private static final int MOST_ELEMENTS = 40;
    private static final int SORTS = 5;
    private static final int FEET_MARK = 10;
    private static final int MOST_LETTERS = 250;
    private static final int FAULT_MARK = -20;
    private static final int REFUSALS = 5;
    private static final int ABOVE_ALL = 1000000;

    private final Drive now = new Drive();
    private final Drive kept = new Drive();
    private final Drive trial = new Drive();
    private final Shelves shelves = new Shelves();
    private final Tape tape = new Tape();
    private final Paths paths = new Paths();
    private final long[] sounds = new long[MOST_FEET];
    private final int[] volumes = new int[MOST_FEET];
    private final int[] refusals = new int[REFUSALS];
    private boolean isKept;

    public GravelHasTheLastWord() {
        isKept = false;
    }

    // ---- SHELVES

    public int row(int s, int sort, int n) {
        if (!isShelf(s) || !isWithin(sort, 0, SORTS - 1) || !isWithin(n, 0, MOST_ELEMENTS)) {
            return refuse(BAD);
        }
        shelves.layRow(s, sort, n);
        return 1;
    }

    public int set(int s, int i, long v) {
        if (!isShelf(s)) {
            return refuse(BAD);
        }
        int wrong = shelves.whyNoRow(s);
        if (wrong != FINE) {
            return refuse(wrong);
        }
        if (!isWithin(i, 0, shelves.sizeOf(s) - 1)) {
            return refuse(BAD);
        }
        shelves.put(s, i, v);
        return 1;
    }

    public int copy(int p, int q, int i, int j, int n) {
        if (!isShelf(p) || !isShelf(q)) {
            return refuse(BAD);
        }
        int wrong = shelves.whyNoCopy(p, q);
        if (wrong != FINE) {
            return refuse(wrong);
        }
        if (!isPart(i, n, shelves.sizeOf(p)) || !isPart(j, n, shelves.sizeOf(q))) {
            return refuse(BAD);
        }
        shelves.move(p, q, i, j, n);
        return n;
    }

    public long element(int s, int i) {
        return shelves.elementOf(s, i);
    }

    public int holds(int s) {
        return shelves.heldBy(s);
    }

    public int show(int s, int feet) {
        if (!isShelf(s) || (feet != NONE && !isFeet(feet))) {
            return refuse(BAD);
        }
        shelves.layFeet(s, feet);
        return 1;
    }

    public int says(int s, int kind) {
        if (!isShelf(s) || !isWithin(kind, 0, KINDS - 1)) {
            return refuse(BAD);
        }
        int held = shelves.heldBy(s);
        if (held == NONE) {
            return refuse(NOTHING);
        }
        int feet = held - FEET_MARK;
        if (!isFeet(feet) || !isOfKind(now.kindOf(feet), kind)) {
            return refuse(OTHER);
        }
        return kind == FOOT ? now.chanceOf(feet) : now.stepAs(feet, 0, 1);
    }

    // ---- THE DRIVE

    public int side(int n) {
        if (!isWithin(n, LEAST_SIDE, MOST_SIDE)) {
            return refuse(BAD);
        }
        int was = now.width;
        now.layOut(n);
        return was;
    }

    public int gravel(int cell, int v) {
        if (!isCell(cell) || !isWithin(v, 0, MOST_GRAVEL)) {
            return refuse(BAD);
        }
        int was = now.stonesOn(cell);
        now.pour(cell, v);
        return was;
    }

    public int ask(int what, int v) {
        int was;
        if (what == 0 && isWithin(v, 0, MOST_RAIN)) {
            was = now.rain;
            now.rain = v;
        } else if (what == 1 && isWithin(v, 1, MOST_EAR)) {
            was = now.ear;
            now.ear = v;
        } else {
            was = refuse(BAD);
        }
        return was;
    }

    public int feet(int kind, int a, int likely) {
        if (!isWithin(kind, 0, KINDS - 1) || !isWithin(a, 0, MOST_WEIGHT)
                || !isWithin(likely, 1, MOST_LIKELY)) {
            return refuse(BAD);
        }
        if (now.isFull()) {
            return refuse(FULL);
        }
        return now.welcome(kind, a, likely);
    }

    public int feed(int letter) {
        if (!isWithin(letter, 0, 255)) {
            return refuse(BAD);
        }
        if (tape.isFull()) {
            return refuse(FULL);
        }
        return tape.append(letter);
    }

    public int wipe() {
        return tape.cut();
    }

    public int drive() {
        trial.takeFrom(now);
        int told = tape.readInto(trial);
        tape.cut();
        if (told < 0) {
            refuse(BAD);
            return told;
        }
        now.takeFrom(trial);
        return told;
    }

    public int feetOf(int feet, int what) {
        if (!isFeet(feet) || !isWithin(what, 0, 2)) {
            return refuse(BAD);
        }
        if (what == 0) {
            return now.kindOf(feet);
        }
        return what == 1 ? now.weightOf(feet) : now.chanceOf(feet);
    }

    public int cellOf(int cell, int what) {
        if (!isCell(cell) || !isWithin(what, 0, 1)) {
            return refuse(BAD);
        }
        return what == 0 ? now.stonesOn(cell) : now.wetOn(cell, now.rain);
    }

    // ---- WAYS

    public int crunch(int feet, int cell, int k) {
        if (!isFeet(feet) || !isCell(cell) || !isWithin(k, 0, MOST_SIDE - 1)) {
            return refuse(BAD);
        }
        return now.stepAs(feet, cell, k);
    }

    public int quietest(int feet, int i) {
        if (!isFeet(feet) || !isStepOrNone(i)) {
            return refuse(BAD);
        }
        int least = leastOf(feet);
        return i == NONE ? least : paths.cellOnWay(i);
    }

    public int softest(int feet, int i) {
        if (!isFeet(feet) || !isStepOrNone(i)) {
            return refuse(BAD);
        }
        layCrunches(feet, 1);
        int least = paths.leastGreatest();
        return i == NONE ? least : paths.cellOnWay(i);
    }

    public int unheard(int feet, int i) {
        if (!isFeet(feet) || !isStepOrNone(i)) {
            return refuse(BAD);
        }
        layHeard(feet, now.rain);
        return toldOfOpenWays(i);
    }

    public int raked(int feet, int i) {
        if (!isFeet(feet) || i < NONE) {
            return refuse(BAD);
        }
        layHeard(feet, now.rain);
        paths.markOpen();
        for (int cell = 0; cell < now.cells(); cell++) {
            paths.markTurnable(cell, paths.stepOn(cell) == 0 && now.raisedStep(feet, cell) >= now.ear);
        }
        return toldOfFewest(paths.fewestTurned(false), i);
    }

    public int loudest(int feet, int i) {
        if (!isFeet(feet) || !isStepOrNone(i)) {
            return refuse(BAD);
        }
        // The most of all is the least of what lies below nothing by as much.
        layCrunches(feet, -1);
        int most = -paths.leastTogether();
        return i == NONE ? most : paths.cellOnWay(i);
    }

    public int ways() {
        layNothing();
        return paths.openWays();
    }

    public int through(int cell) {
        if (!isCell(cell)) {
            return refuse(BAD);
        }
        layNothing();
        int first = cell - now.columnOf(cell);
        for (int beside = first; beside < first + now.width; beside++) {
            paths.putStep(beside, beside == cell ? 0 : 1);
        }
        return paths.openWays();
    }

    public int dry(int feet) {
        if (!isFeet(feet)) {
            return refuse(BAD);
        }
        for (int rain = 0; rain <= MOST_RAIN; rain++) {
            layHeard(feet, rain);
            paths.markOpen();
            if (paths.isPassable()) {
                return rain;
            }
        }
        return NONE;
    }

    public int mean(int feet) {
        if (!isFeet(feet)) {
            return refuse(BAD);
        }
        layCrunches(feet, 1);
        int all = paths.allTogether();
        layNothing();
        return thousandths(all, paths.openWays());
    }

    public int planks(int feet, int i) {
        if (!isFeet(feet) || i < NONE) {
            return refuse(BAD);
        }
        layHeard(feet, now.rain);
        paths.markOpen();
        for (int cell = 0; cell < now.cells(); cell++) {
            paths.markTurnable(cell, paths.stepOn(cell) != 0);
        }
        return toldOfFewest(paths.fewestTurned(true), i);
    }

    public int column(int feet) {
        if (!isFeet(feet)) {
            return refuse(BAD);
        }
        int best = 0;
        int least = ABOVE_ALL;
        for (int c = 0; c < now.width; c++) {
            int all = 0;
            for (int r = 0; r < now.width; r++) {
                all += now.stepOn(feet, now.cellAt(r, c));
            }
            if (all < least) {
                least = all;
                best = c;
            }
        }
        return best;
    }

    public int worst(int feet) {
        if (!isFeet(feet)) {
            return refuse(BAD);
        }
        int best = 0;
        int greatest = NONE;
        for (int cell = 0; cell < now.cells(); cell++) {
            int loud = now.stepOn(feet, cell);
            if (loud > greatest) {
                greatest = loud;
                best = cell;
            }
        }
        return best;
    }

    public int ranked(int i) {
        if (!isFeet(i)) {
            return refuse(BAD);
        }
        for (int f = 0; f < now.count(); f++) {
            volumes[f] = leastOf(f);
        }
        for (int f = 0; f < now.count(); f++) {
            if (placeOf(f) == i) {
                return f;
            }
        }
        return NONE;
    }

    public int duel(int feet, int what) {
        if (!isFeet(feet) || !isWithin(what, 0, 1)) {
            return refuse(BAD);
        }
        layCrunches(feet, 1);
        int best = 0;
        int most = NONE;
        for (int cell = 0; cell < now.cells(); cell++) {
            int was = paths.stepOn(cell);
            paths.putStep(cell, now.raisedStep(feet, cell));
            int least = paths.leastTogether();
            paths.putStep(cell, was);
            if (least > most) {
                most = least;
                best = cell;
            }
        }
        return what == 0 ? best : most;
    }

    // ---- WHAT IS HEARD

    public int heardOn(int cell) {
        if (!isCell(cell)) {
            return refuse(BAD);
        }
        int bits = 0;
        for (int f = 0; f < now.count(); f++) {
            if (now.stepOn(f, cell) >= now.ear) {
                bits |= 1 << f;
            }
        }
        return bits;
    }

    public int silent() {
        int count = 0;
        for (int cell = 0; cell < now.cells(); cell++) {
            if (now.wetOn(cell, now.rain) == 0) {
                count++;
            }
        }
        return count;
    }

    public int heardBy(int feet) {
        if (!isFeet(feet)) {
            return refuse(BAD);
        }
        int count = 0;
        for (int cell = 0; cell < now.cells(); cell++) {
            if (now.stepOn(feet, cell) >= now.ear) {
                count++;
            }
        }
        return count;
    }

    public int gap(int feet, int other, int column) {
        if (!isPair(feet, other) || !isColumn(column)) {
            return refuse(BAD);
        }
        for (int r = 0; r < now.width; r++) {
            int cell = now.cellAt(r, column);
            if (now.stepOn(feet, cell) != now.stepOn(other, cell)) {
                return r;
            }
        }
        return NONE;
    }

    public int confused(int feet) {
        if (!isFeet(feet)) {
            return refuse(BAD);
        }
        int bits = 0;
        for (int c = 0; c < now.width; c++) {
            listen(c, now.rain);
            for (int f = 0; f < now.count(); f++) {
                if (f != feet && sounds[f] == sounds[feet]) {
                    bits |= 1 << f;
                }
            }
        }
        return bits;
    }

    public int odds(int feet) {
        if (!isFeet(feet)) {
            return refuse(BAD);
        }
        return thousandths(now.chanceOf(feet), now.allChances());
    }

    public int who(int s, int column, int what) {
        if (!isShelf(s) || !isColumn(column) || !isWithin(what, 0, 3)) {
            return refuse(BAD);
        }
        int wrong = whyNoRowOf(s, now.width);
        if (wrong != FINE) {
            return refuse(wrong);
        }
        int bits = fitting(s, column, now.width);
        if (what == 0) {
            return bits;
        }
        if (what == 3) {
            return bits == 0 ? NONE : sureBehind(s, column);
        }
        int likeliest = likeliestOf(bits);
        if (what == 1) {
            return likeliest;
        }
        return likeliest == NONE ? refuse(STUCK) : thousandths(now.chanceOf(likeliest), chancesOf(bits));
    }

    public int apart(int column) {
        if (!isColumn(column)) {
            return refuse(BAD);
        }
        return apartUnder(column, now.rain);
    }

    public int telling(int what) {
        if (!isWithin(what, 0, 1)) {
            return refuse(BAD);
        }
        return what == 0 ? mostApart() : leastRainApart();
    }

    public int as(int feet, int other, int column, int i) {
        if (!isPair(feet, other) || !isColumn(column) || !isStepOrNone(i)) {
            return refuse(BAD);
        }
        paths.width = now.width;
        for (int cell = 0; cell < now.cells(); cell++) {
            int straight = now.cellAt(now.rowOf(cell), column);
            paths.putStep(cell, now.stepOn(feet, cell) == now.stepOn(other, straight) ? 0 : 1);
        }
        return toldOfOpenWays(i);
    }

    public int two(int s, int column, int other, int what) {
        if (!isShelf(s) || !isColumn(column) || !isColumn(other) || column == other || !isWithin(what, 0, 1)) {
            return refuse(BAD);
        }
        int wrong = whyNoRowOf(s, now.width);
        if (wrong != FINE) {
            return refuse(wrong);
        }
        int count = 0;
        int first = NONE;
        for (int f = 0; f < now.count(); f++) {
            for (int g = 0; g < now.count(); g++) {
                if (f != g && areTogether(s, f, column, g, other)) {
                    first = count == 0 ? 10 * f + g : first;
                    count++;
                }
            }
        }
        return what == 0 ? count : first;
    }

    public int meant(int s, int feet, int column, int what) {
        if (!isShelf(s) || !isFeet(feet) || !isColumn(column) || !isWithin(what, 0, 1)) {
            return refuse(BAD);
        }
        int wrong = whyNoRowOf(s, now.width);
        if (wrong != FINE) {
            return refuse(wrong);
        }
        return what == 0 ? kindsMeant(s, feet, column) : leastWeightMeant(s, feet, column);
    }

    // ---- A told WAY

    public int judge(int s, int n) {
        if (!isShelf(s) || !isWithin(n, 0, MOST_ELEMENTS)) {
            return refuse(BAD);
        }
        int wrong = whyNoRowOf(s, n);
        return wrong != FINE ? refuse(wrong) : wrongIn(s, n);
    }

    public int loud(int s, int n, int feet, int what) {
        if (!isShelf(s) || !isWithin(n, 0, MOST_ELEMENTS) || !isFeet(feet) || !isWithin(what, 0, 1)) {
            return refuse(BAD);
        }
        int wrong = whyNoWay(s, n);
        if (wrong != FINE) {
            return refuse(wrong);
        }
        return what == 0 ? allAlong(s, feet) : firstHeardAlong(s, feet);
    }

    public int done(int s, int n, int feet) {
        if (!isShelf(s) || !isWithin(n, 0, MOST_ELEMENTS) || !isFeet(feet)) {
            return refuse(BAD);
        }
        int wrong = whyNoWay(s, n);
        if (wrong != FINE) {
            return refuse(wrong);
        }
        int all = allAlong(s, feet);
        for (int r = 0; r < now.width; r++) {
            int cell = (int) shelves.elementOf(s, r);
            now.pour(cell, Math.max(0, now.stonesOn(cell) - 1));
        }
        return all;
    }

    // ---- IN TRUTH

    public int rake() {
        now.rakeAll();
        return now.allStones();
    }

    public int sweep(int column) {
        if (!isColumn(column)) {
            return refuse(BAD);
        }
        int was = 0;
        for (int r = 0; r < now.width; r++) {
            int cell = now.cellAt(r, column);
            was += now.stonesOn(cell);
            now.pour(cell, 0);
        }
        return was;
    }

    public int arrivals(int m) {
        if (!isWithin(m, 1, MOST_ARRIVALS)) {
            return refuse(BAD);
        }
        if (now.count() == 0) {
            return refuse(STUCK);
        }
        int right = 0;
        for (int arrival = 0; arrival < m; arrival++) {
            int feet = now.drawFeet();
            listen(now.drawBelow(now.width), now.rain);
            if (feet == likeliestOf(soundingAs(feet))) {
                right++;
            }
        }
        return right;
    }

    public int seed(int v) {
        int was = now.seed;
        now.seed = v;
        return was;
    }

    public int image() {
        kept.takeFrom(now);
        isKept = true;
        return 1;
    }

    public int back() {
        if (!isKept) {
            return refuse(STUCK);
        }
        now.takeFrom(kept);
        shelves.dropFeetFrom(now.count());
        return 1;
    }

    public int status(int what) {
        switch (what) {
            case 0: return now.count();
            case 1: return now.width;
            case 2: return now.rain;
            case 3: return now.ear;
            case 4: return now.allStones();
            case 5: return now.allChances();
            case 6: return tape.size;
            case 7: return now.seed;
            case 8: return shelves.taken();
            default: return isWithin(what, 12, 16) ? refusals[what - 12] : NONE;
        }
    }

    // ---- what may be, and what is refused

    private int refuse(int why) {
        int place = BAD - why;
        if (isWithin(place, 0, REFUSALS - 1)) {
            refusals[place]++;
        }
        return why;
    }

    private static boolean isWithin(int v, int low, int high) {
        return v >= low && v <= high;
    }

    /** Whether n places from i on lie in a row of that size (no sum, that none wraps). */
    private static boolean isPart(int i, int n, int size) {
        return n >= 0 && i >= 0 && i <= size && n <= size - i;
    }

    private static boolean isShelf(int s) {
        return s >= 0 && s < SHELF_COUNT;
    }

    private boolean isFeet(int feet) {
        return isWithin(feet, 0, now.count() - 1);
    }

    private boolean isPair(int feet, int other) {
        return isFeet(feet) && isFeet(other) && feet != other;
    }

    private boolean isCell(int cell) {
        return isWithin(cell, 0, now.cells() - 1);
    }

    private boolean isColumn(int column) {
        return isWithin(column, 0, now.width - 1);
    }

    private boolean isStepOrNone(int i) {
        return isWithin(i, NONE, now.width - 1);
    }

    /** Whether a KIND is the wanted one or stands under it. */
    private static boolean isOfKind(int kind, int wanted) {
        int at = kind;
        for (int level = 0; level < KINDS && isWithin(at, 0, KINDS - 1); level++) {
            if (at == wanted) {
                return true;
            }
            at = KIND_ABOVE[at];
        }
        return false;
    }

    private int whyNoRowOf(int s, int elements) {
        int wrong = shelves.whyNoRow(s);
        if (wrong != FINE) {
            return wrong;
        }
        return shelves.sizeOf(s) < elements ? BAD : FINE;
    }

    private int whyNoWay(int s, int n) {
        int wrong = whyNoRowOf(s, n);
        if (wrong != FINE) {
            return wrong;
        }
        return wrongIn(s, n) == NONE ? FINE : STUCK;
    }

    private static int thousandths(int part, int all) {
        return all > 0 ? 1000 * part / all : 0;
    }

    // ---- tables for WAYS

    private void layNothing() {
        paths.width = now.width;
        for (int cell = 0; cell < now.cells(); cell++) {
            paths.putStep(cell, 0);
        }
    }

    private void layCrunches(int feet, int times) {
        paths.width = now.width;
        for (int cell = 0; cell < now.cells(); cell++) {
            paths.putStep(cell, times * now.stepOn(feet, cell));
        }
    }

    private void layHeard(int feet, int rain) {
        paths.width = now.width;
        for (int cell = 0; cell < now.cells(); cell++) {
            int loud = now.stepUnder(feet, cell, now.rowOf(cell), rain);
            paths.putStep(cell, loud >= now.ear ? 1 : 0);
        }
    }

    private int leastOf(int feet) {
        layCrunches(feet, 1);
        return paths.leastTogether();
    }

    private int toldOfOpenWays(int i) {
        if (i == NONE) {
            return paths.openWays();
        }
        return paths.leastTogether() == 0 ? paths.cellOnWay(i) : refuse(STUCK);
    }

    private int toldOfFewest(int count, int i) {
        if (i == NONE) {
            return count;
        }
        return i < count ? paths.turnedCell(i) : refuse(STUCK);
    }

    /** How many FEET go ahead of these by how loud they are. */
    private int placeOf(int feet) {
        int ahead = 0;
        for (int f = 0; f < now.count(); f++) {
            if (volumes[f] < volumes[feet] || (volumes[f] == volumes[feet] && f < feet)) {
                ahead++;
            }
        }
        return ahead;
    }

    // ---- sounds

    private void listen(int column, int rain) {
        for (int f = 0; f < now.count(); f++) {
            sounds[f] = now.soundUnder(f, column, rain);
        }
    }

    private int soundingAs(int feet) {
        int bits = 0;
        for (int f = 0; f < now.count(); f++) {
            if (sounds[f] == sounds[feet]) {
                bits |= 1 << f;
            }
        }
        return bits;
    }

    private int apartUnder(int column, int rain) {
        listen(column, rain);
        int count = 0;
        for (int f = 0; f < now.count(); f++) {
            if (soundingAs(f) == 1 << f) {
                count++;
            }
        }
        return count;
    }

    private int mostApart() {
        int best = 0;
        int most = NONE;
        for (int c = 0; c < now.width; c++) {
            int count = apartUnder(c, now.rain);
            if (count > most) {
                most = count;
                best = c;
            }
        }
        return best;
    }

    private int leastRainApart() {
        for (int rain = 0; rain <= MOST_RAIN; rain++) {
            for (int c = 0; c < now.width; c++) {
                if (apartUnder(c, rain) == now.count()) {
                    return rain;
                }
            }
        }
        return NONE;
    }

    /** Whether steps of a KIND and an a, STRAIGHT up, are the first elements of a ROW. */
    private boolean isToldSo(int s, int kind, int a, int column, int elements) {
        for (int r = 0; r < elements; r++) {
            int wet = now.wetOn(now.cellAt(r, column), now.rain);
            if (Drive.stepBy(kind, a, wet, r) != shelves.elementOf(s, r)) {
                return false;
            }
        }
        return true;
    }

    private int fitting(int s, int column, int elements) {
        int bits = 0;
        for (int f = 0; f < now.count(); f++) {
            if (isToldSo(s, now.kindOf(f), now.weightOf(f), column, elements)) {
                bits |= 1 << f;
            }
        }
        return bits;
    }

    private int sureBehind(int s, int column) {
        for (int elements = 1; elements <= now.width; elements++) {
            if (Integer.bitCount(fitting(s, column, elements)) == 1) {
                return elements;
            }
        }
        return NONE;
    }

    private int likeliestOf(int bits) {
        int best = NONE;
        int most = 0;
        for (int f = 0; f < now.count(); f++) {
            if ((bits >> f & 1) == 1 && now.chanceOf(f) > most) {
                most = now.chanceOf(f);
                best = f;
            }
        }
        return best;
    }

    private int chancesOf(int bits) {
        int all = 0;
        for (int f = 0; f < now.count(); f++) {
            if ((bits >> f & 1) == 1) {
                all += now.chanceOf(f);
            }
        }
        return all;
    }

    private boolean areTogether(int s, int feet, int column, int others, int another) {
        for (int r = 0; r < now.width; r++) {
            int both = now.stepOn(feet, now.cellAt(r, column)) + now.stepOn(others, now.cellAt(r, another));
            if (both != shelves.elementOf(s, r)) {
                return false;
            }
        }
        return true;
    }

    private int kindsMeant(int s, int feet, int column) {
        int bits = 0;
        for (int kind = 0; kind < KINDS; kind++) {
            if (isToldSo(s, kind, now.weightOf(feet), column, now.width)) {
                bits |= 1 << kind;
            }
        }
        return bits;
    }

    private int leastWeightMeant(int s, int feet, int column) {
        for (int a = 0; a <= MOST_WEIGHT; a++) {
            if (isToldSo(s, now.kindOf(feet), a, column, now.width)) {
                return a;
            }
        }
        return NONE;
    }

    // ---- told WAYS

    private int wrongIn(int s, int n) {
        for (int i = 0; i < n; i++) {
            long first = (long) i * now.width;
            long column = shelves.elementOf(s, i) - first;
            if (i >= now.width || column < 0 || column >= now.width) {
                return i;
            }
            // The one ahead lies a whole ROW lower.
            long ahead = i == 0 ? column : shelves.elementOf(s, i - 1) - first + now.width;
            if (Math.abs(column - ahead) > 1) {
                return i;
            }
        }
        return n < now.width ? n : NONE;
    }

    private int allAlong(int s, int feet) {
        int all = 0;
        for (int r = 0; r < now.width; r++) {
            all += now.stepOn(feet, (int) shelves.elementOf(s, r));
        }
        return all;
    }

    private int firstHeardAlong(int s, int feet) {
        for (int r = 0; r < now.width; r++) {
            if (now.stepOn(feet, (int) shelves.elementOf(s, r)) >= now.ear) {
                return r;
            }
        }
        return NONE;
    }

    /** The drive and its FEET: as they are, as they were kept, or as a tape tells them. */
    private static final class Drive {
        private final int[] stones = new int[MOST_CELLS];
        private final int[] kinds = new int[MOST_FEET];
        private final int[] weights = new int[MOST_FEET];
        private final int[] chances = new int[MOST_FEET];
        int width;
        int rain;
        int ear;
        int walkers;
        int seed;

        Drive() {
            ear = 4;
            seed = 1;
            layOut(4);
        }

        void layOut(int n) {
            width = n;
            for (int cell = 0; cell < MOST_CELLS; cell++) {
                stones[cell] = 3;
            }
        }

        void takeFrom(Drive other) {
            System.arraycopy(other.stones, 0, stones, 0, MOST_CELLS);
            System.arraycopy(other.kinds, 0, kinds, 0, MOST_FEET);
            System.arraycopy(other.weights, 0, weights, 0, MOST_FEET);
            System.arraycopy(other.chances, 0, chances, 0, MOST_FEET);
            width = other.width;
            rain = other.rain;
            ear = other.ear;
            walkers = other.walkers;
            seed = other.seed;
        }

        int cells() {
            return Math.min(width * width, MOST_CELLS);
        }

        int rowOf(int cell) {
            return width > 0 ? cell / width : 0;
        }

        int columnOf(int cell) {
            return width > 0 ? cell % width : 0;
        }

        int cellAt(int r, int c) {
            return r * width + c;
        }

        int stonesOn(int cell) {
            return cell >= 0 && cell < MOST_CELLS ? stones[cell] : 0;
        }

        void pour(int cell, int v) {
            if (isWithin(cell, 0, MOST_CELLS - 1)) {
                stones[cell] = v;
            }
        }

        int wetOn(int cell, int under) {
            return Math.max(0, stonesOn(cell) - under);
        }

        void rakeAll() {
            for (int cell = 0; cell < cells(); cell++) {
                if (stones[cell] != 0) {
                    stones[cell] = Math.min(MOST_GRAVEL, stones[cell] + 1);
                }
            }
        }

        int allStones() {
            int all = 0;
            for (int cell = 0; cell < cells(); cell++) {
                all += stones[cell];
            }
            return all;
        }

        /** How many FEET there are; never more than the rows of them have places. */
        int count() {
            return Math.min(walkers, MOST_FEET);
        }

        boolean isFull() {
            return walkers >= MOST_FEET;
        }

        int welcome(int kind, int a, int likely) {
            if (!isWithin(walkers, 0, MOST_FEET - 1)) {
                return NONE;
            }
            kinds[walkers] = kind;
            weights[walkers] = a;
            chances[walkers] = likely;
            return walkers++;
        }

        int kindOf(int f) {
            return isWithin(f, 0, MOST_FEET - 1) ? kinds[f] : NONE;
        }

        int weightOf(int f) {
            return isWithin(f, 0, MOST_FEET - 1) ? weights[f] : 0;
        }

        int chanceOf(int f) {
            return isWithin(f, 0, MOST_FEET - 1) ? chances[f] : 0;
        }

        int allChances() {
            int all = 0;
            for (int f = 0; f < count(); f++) {
                all += chanceOf(f);
            }
            return all;
        }

        static int stepBy(int kind, int a, int wet, int k) {
            if (wet <= 0) {
                return 0;
            }
            boolean isOdd = (k & 1) == 1;
            int plain = wet + a;
            int soft = Math.max(0, plain - 3);
            switch (kind) {
                case BOOT: return 2 * plain;
                case SPUR: return isOdd ? 2 * plain + 1 : 2 * plain;
                case SOFT: return soft;
                case CAT: return wet <= 4 ? 0 : soft;
                case LAME: return isOdd ? plain / 2 : plain;
                default: return plain;
            }
        }

        int stepUnder(int f, int cell, int k, int under) {
            return stepBy(kindOf(f), weightOf(f), wetOn(cell, under), k);
        }

        int stepAs(int f, int cell, int k) {
            return stepUnder(f, cell, k, rain);
        }

        /** The CRUNCH on a CELL as the CELL of its ROW of a WAY. */
        int stepOn(int f, int cell) {
            return stepUnder(f, cell, rowOf(cell), rain);
        }

        int raisedStep(int f, int cell) {
            return stepBy(kindOf(f), weightOf(f), Math.max(0, MOST_GRAVEL - rain), rowOf(cell));
        }

        /** All steps STRAIGHT up as one number: none of them is above 63. */
        long soundUnder(int f, int c, int under) {
            int kind = kindOf(f);
            int a = weightOf(f);
            long sound = 0;
            for (int r = 0; r < width; r++) {
                sound = sound << 6 | stepBy(kind, a, wetOn(cellAt(r, c), under), r);
            }
            return sound;
        }

        int drawBelow(int bound) {
            seed = seed * 1103515245 + 12345;
            return bound > 0 ? (seed >>> 16) % bound : 0;
        }

        int drawFeet() {
            int left = drawBelow(allChances());
            for (int f = 0; f < count(); f++) {
                left -= chanceOf(f);
                if (left < 0) {
                    return f;
                }
            }
            return 0;
        }
    }

    /** WAYS up a drive by a number for each CELL; that is 0, where a CELL is open, when WAYS are counted. */
    private static final class Paths {
        private final int[] steps = new int[MOST_CELLS];
        private final int[] rest = new int[MOST_CELLS];
        private final int[] counts = new int[MOST_CELLS];
        private final int[] way = new int[MOST_SIDE];
        private final int[] open = new int[MOST_SIDE];
        private final boolean[] turnable = new boolean[MOST_CELLS];
        private final int[] turned = new int[MOST_CHANGED];
        int width;

        private int length() {
            return Math.min(width, MOST_SIDE);
        }

        private int cellIn(int r, int c) {
            int cell = r * length() + c;
            return isWithin(cell, 0, MOST_CELLS - 1) ? cell : 0;
        }

        int stepOn(int cell) {
            return isWithin(cell, 0, MOST_CELLS - 1) ? steps[cell] : 0;
        }

        void putStep(int cell, int v) {
            if (isWithin(cell, 0, MOST_CELLS - 1)) {
                steps[cell] = v;
            }
        }

        int cellOnWay(int i) {
            return isWithin(i, 0, MOST_SIDE - 1) ? way[i] : NONE;
        }

        int turnedCell(int i) {
            return isWithin(i, 0, MOST_CHANGED - 1) ? turned[i] : NONE;
        }

        /** The least that CELLS beside this one have in the ROW behind; 0 behind the last. */
        private int leastBehind(int r, int c) {
            if (r + 1 >= length()) {
                return 0;
            }
            int least = ABOVE_ALL;
            for (int beside = Math.max(0, c - 1); beside <= Math.min(length() - 1, c + 1); beside++) {
                least = Math.min(least, rest[cellIn(r + 1, beside)]);
            }
            return least;
        }

        private int sumBehind(int[] of, int r, int c) {
            int sum = 0;
            for (int beside = Math.max(0, c - 1); beside <= Math.min(length() - 1, c + 1); beside++) {
                sum += of[cellIn(r + 1, beside)];
            }
            return sum;
        }

        private int leastAtGate() {
            int least = rest[0];
            for (int c = 1; c < length(); c++) {
                least = Math.min(least, rest[cellIn(0, c)]);
            }
            return least;
        }

        /** The least sum of a WAY; the first such WAY is kept. */
        int leastTogether() {
            for (int r = length() - 1; r >= 0; r--) {
                for (int c = 0; c < length(); c++) {
                    int cell = cellIn(r, c);
                    rest[cell] = steps[cell] + leastBehind(r, c);
                }
            }
            int least = leastAtGate();
            keepFirst(least, true);
            return least;
        }

        /** The least that the greatest of a WAY can be; the first such WAY is kept. */
        int leastGreatest() {
            for (int r = length() - 1; r >= 0; r--) {
                for (int c = 0; c < length(); c++) {
                    int cell = cellIn(r, c);
                    rest[cell] = Math.max(steps[cell], leastBehind(r, c));
                }
            }
            int least = leastAtGate();
            keepFirst(least, false);
            return least;
        }

        /** Keeps the first WAY whose rest is never above what is left of the limit. */
        private void keepFirst(int limit, boolean isSpent) {
            int left = limit;
            int from = 0;
            int to = length() - 1;
            for (int r = 0; r < length(); r++) {
                int c = from;
                while (c < to && rest[cellIn(r, c)] > left) {
                    c++;
                }
                int cell = cellIn(r, c);
                way[r] = cell;
                left -= isSpent ? steps[cell] : 0;
                from = Math.max(0, c - 1);
                to = Math.min(length() - 1, c + 1);
            }
        }

        /** How many WAYS go over open CELLS alone. */
        int openWays() {
            for (int r = length() - 1; r >= 0; r--) {
                for (int c = 0; c < length(); c++) {
                    int cell = cellIn(r, c);
                    int behind = r + 1 < length() ? sumBehind(counts, r, c) : 1;
                    counts[cell] = steps[cell] == 0 ? behind : 0;
                }
            }
            return gateSum(counts);
        }

        /** The sum of all WAYS. */
        int allTogether() {
            for (int r = length() - 1; r >= 0; r--) {
                for (int c = 0; c < length(); c++) {
                    int cell = cellIn(r, c);
                    boolean isLast = r + 1 >= length();
                    counts[cell] = isLast ? 1 : sumBehind(counts, r, c);
                    rest[cell] = steps[cell] * counts[cell] + (isLast ? 0 : sumBehind(rest, r, c));
                }
            }
            return gateSum(rest);
        }

        private int gateSum(int[] of) {
            int sum = 0;
            for (int c = 0; c < length(); c++) {
                sum += of[cellIn(0, c)];
            }
            return sum;
        }

        /** Keeps the open CELLS as a row of bits a ROW. */
        void markOpen() {
            for (int r = 0; r < length(); r++) {
                int bits = 0;
                for (int c = 0; c < length(); c++) {
                    bits |= steps[cellIn(r, c)] == 0 ? 1 << c : 0;
                }
                open[r] = bits;
            }
        }

        void markTurnable(int cell, boolean v) {
            if (isWithin(cell, 0, MOST_CELLS - 1)) {
                turnable[cell] = v;
            }
        }

        boolean isPassable() {
            int reached = open[0];
            for (int r = 1; r < length(); r++) {
                reached = (reached | reached << 1 | reached >> 1) & open[r];
            }
            return reached != 0;
        }

        private void turn(int cell) {
            int r = length() > 0 ? cell / length() : 0;
            if (isWithin(r, 0, MOST_SIDE - 1)) {
                open[r] ^= 1 << (cell - r * length());
            }
        }

        /**
         * How few CELLS must be turned (an open one closed, a closed one opened) until it is passable or
         * isn't, as wanted; the first such CELLS are kept; NONE: two aren't enough.
         */
        int fewestTurned(boolean wanted) {
            if (isPassable() == wanted) {
                return 0;
            }
            turned[0] = firstTurned(0, wanted);
            if (turned[0] != NONE) {
                return 1;
            }
            for (int cell = 0; cell < length() * length(); cell++) {
                if (turnable[cellIn(0, cell)]) {
                    turn(cell);
                    turned[1] = firstTurned(cell + 1, wanted);
                    turn(cell);
                    if (turned[1] != NONE) {
                        turned[0] = cell;
                        return 2;
                    }
                }
            }
            return NONE;
        }

        /** The first CELL, from one on, that does it alone; NONE. */
        private int firstTurned(int from, boolean wanted) {
            for (int cell = from; cell < length() * length(); cell++) {
                if (turnable[cellIn(0, cell)]) {
                    turn(cell);
                    boolean isFound = isPassable() == wanted;
                    turn(cell);
                    if (isFound) {
                        return cell;
                    }
                }
            }
            return NONE;
        }
    }

    /** SHELVES: what each holds by its mark, and places for the elements of all. */
    private static final class Shelves {
        private final int[] marks = new int[SHELF_COUNT];
        private final int[] sizes = new int[SHELF_COUNT];
        private final long[] elements = new long[SHELF_COUNT * MOST_ELEMENTS];

        Shelves() {
            for (int s = 0; s < SHELF_COUNT; s++) {
                marks[s] = NONE;
            }
        }

        int heldBy(int s) {
            return isShelf(s) ? marks[s] : NONE;
        }

        /** How many elements a ROW there has; 0: there is none. */
        int sizeOf(int s) {
            return isShelf(s) ? sizes[s] : 0;
        }

        int taken() {
            int count = 0;
            for (int s = 0; s < SHELF_COUNT; s++) {
                if (marks[s] != NONE) {
                    count++;
                }
            }
            return count;
        }

        int whyNoRow(int s) {
            int held = heldBy(s);
            if (held == NONE) {
                return NOTHING;
            }
            return held < FEET_MARK ? FINE : OTHER;
        }

        int whyNoCopy(int p, int q) {
            int one = whyNoRow(p);
            int other = whyNoRow(q);
            if (one == OTHER || other == OTHER) {
                return OTHER;
            }
            if (one == NOTHING || other == NOTHING) {
                return NOTHING;
            }
            return heldBy(p) == heldBy(q) ? FINE : OTHER;
        }

        void layRow(int s, int sort, int n) {
            if (!isShelf(s) || !isWithin(n, 0, MOST_ELEMENTS)) {
                return;
            }
            marks[s] = sort;
            sizes[s] = n;
            for (int i = 0; i < n; i++) {
                elements[s * MOST_ELEMENTS + i] = 0;
            }
        }

        void layFeet(int s, int f) {
            if (isShelf(s)) {
                marks[s] = f == NONE ? NONE : FEET_MARK + f;
                sizes[s] = 0;
            }
        }

        void dropFeetFrom(int number) {
            for (int s = 0; s < SHELF_COUNT; s++) {
                if (marks[s] >= FEET_MARK + number) {
                    marks[s] = NONE;
                }
            }
        }

        long elementOf(int s, int i) {
            return isWithin(i, 0, sizeOf(s) - 1) ? elements[s * MOST_ELEMENTS + i] : 0;
        }

        void put(int s, int i, long v) {
            if (isWithin(i, 0, sizeOf(s) - 1)) {
                elements[s * MOST_ELEMENTS + i] = lowest(heldBy(s), v);
            }
        }

        private static long lowest(int sort, long v) {
            switch (sort) {
                case 0: return (byte) v;
                case 1: return (short) v;
                case 2: return (int) v;
                case 3: return v;
                default: return v != 0 ? 1 : 0;
            }
        }

        void move(int p, int q, int i, int j, int n) {
            if (isPart(i, n, sizeOf(p)) && isPart(j, n, sizeOf(q))) {
                System.arraycopy(elements, p * MOST_ELEMENTS + i, elements, q * MOST_ELEMENTS + j, n);
            }
        }
    }

    /** THE TAPE, and the reading of a DRIVE from it, TOKEN by TOKEN. */
    private static final class Tape {
        private static final int OVER = 0;
        private static final int WORD = 1;
        private static final int NUMBER = 2;
        private static final int SIGN = 3;
        private static final int STRANGE = 4;
        private static final int BLANK = 32;

        private final int[] letters = new int[MOST_LETTERS];
        int size;
        private int token;
        private int place;
        private int end;

        boolean isFull() {
            return size >= MOST_LETTERS;
        }

        int append(int letter) {
            if (isWithin(size, 0, MOST_LETTERS - 1)) {
                letters[size] = letter;
                size++;
            }
            return size;
        }

        int cut() {
            int was = size;
            size = 0;
            return was;
        }

        private int letterAt(int i) {
            return i >= 0 && i < size && i < MOST_LETTERS ? letters[i] : NONE;
        }

        private static int tokenOf(int letter) {
            if (letter == NONE) {
                return OVER;
            }
            if (letter >= 'a' && letter <= 'z') {
                return WORD;
            }
            if (letter >= '0' && letter <= '9') {
                return NUMBER;
            }
            return letter == ';' ? SIGN : STRANGE;
        }

        private void next() {
            place = end;
            while (place < size && letterAt(place) == BLANK) {
                place++;
            }
            token = tokenOf(letterAt(place));
            end = place < size ? place + 1 : size;
            if (token == WORD || token == NUMBER) {
                while (end < size && tokenOf(letterAt(end)) == token) {
                    end++;
                }
            }
        }

        /** How many STATEMENTS; or the mark of a FAULT: the TOKEN at which the reading stopped. */
        int readInto(Drive drive) {
            end = 0;
            next();
            for (int told = 1; told <= MOST_LETTERS; told++) {
                if (!isStatement(drive)) {
                    return FAULT_MARK - place;
                }
                if (token == OVER) {
                    return told;
                }
                if (token != SIGN) {
                    return FAULT_MARK - place;
                }
                next();
            }
            return FAULT_MARK - place;
        }

        private boolean isSpelt(String word) {
            if (token != WORD || end - place != word.length()) {
                return false;
            }
            for (int i = 0; i < word.length(); i++) {
                if (letterAt(place + i) != word.charAt(i)) {
                    return false;
                }
            }
            return true;
        }

        /** Takes the TOKEN, if it is that word. */
        private boolean isTaken(String word) {
            boolean isIt = isSpelt(word);
            if (isIt) {
                next();
            }
            return isIt;
        }

        /** The NUMBER that stands here, and it is taken; NONE: it may not stand here, and isn't taken. */
        private int number(int low, int high) {
            if (token != NUMBER || end - place > 2) {
                return NONE;
            }
            int value = 0;
            for (int i = place; i < end; i++) {
                value = value * 10 + letterAt(i) - '0';
            }
            if (!isWithin(value, low, high)) {
                return NONE;
            }
            next();
            return value;
        }

        private boolean isStatement(Drive drive) {
            if (isSpelt("foot")) {
                return !drive.isFull() && isFootTold(drive);
            }
            if (isTaken("rake")) {
                drive.rakeAll();
                return true;
            }
            if (isTaken("side")) {
                return isSideTold(drive);
            }
            if (isTaken("gravel")) {
                return isGravelTold(drive);
            }
            if (isTaken("plank")) {
                return isPlankTold(drive);
            }
            if (isTaken("rain")) {
                return isRainTold(drive);
            }
            return isTaken("ear") && isEarTold(drive);
        }

        private boolean isFootTold(Drive drive) {
            next();
            int kind = number(0, KINDS - 1);
            if (kind == NONE) {
                return false;
            }
            int a = number(0, MOST_WEIGHT);
            if (a == NONE) {
                return false;
            }
            int likely = number(1, MOST_LIKELY);
            if (likely == NONE) {
                return false;
            }
            drive.welcome(kind, a, likely);
            return true;
        }

        private boolean isSideTold(Drive drive) {
            int n = number(LEAST_SIDE, MOST_SIDE);
            if (n == NONE) {
                return false;
            }
            drive.layOut(n);
            return true;
        }

        private boolean isGravelTold(Drive drive) {
            int cell = number(0, drive.cells() - 1);
            if (cell == NONE) {
                return false;
            }
            int v = number(0, MOST_GRAVEL);
            if (v == NONE) {
                return false;
            }
            drive.pour(cell, v);
            return true;
        }

        private boolean isPlankTold(Drive drive) {
            int cell = number(0, drive.cells() - 1);
            if (cell == NONE) {
                return false;
            }
            drive.pour(cell, 0);
            return true;
        }

        private boolean isRainTold(Drive drive) {
            int v = number(0, MOST_RAIN);
            if (v == NONE) {
                return false;
            }
            drive.rain = v;
            return true;
        }

        private boolean isEarTold(Drive drive) {
            int v = number(1, MOST_EAR);
            if (v == NONE) {
                return false;
            }
            drive.ear = v;
            return true;
        }
    }
}
