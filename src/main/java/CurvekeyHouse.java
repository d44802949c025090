/** A store that walks the plane by one line; ../shared/DOC.md says what each call promises. */
public final class CurvekeyHouse {
    private static final int NONE = -1;
    /** What a key holds in the pages when no point lives there: nothing, or a tomb. */
    private static final int EMPTY = -1;
    private static final int TOMB = -2;

    private static final int ORDER_MOST = 5;
    private static final int FIRST_ORDER = 3;
    private static final int FIRST_CURVE = 3;
    private static final int FIRST_CAPACITY = 4;
    private static final int CAPACITY_MOST = 8;
    private static final int KEYS_MOST = 1024;
    private static final int CELLS_MOST = 1365;

    private static final int CURVES = 6;
    private static final int ROWS = 0;
    private static final int SNAKE = 1;
    private static final int FIRST_FOLDED = 2;
    private static final int OWN = 5;
    private static final int CURVE_FACTS = 4;
    /** Of the curves 2 to 5, four each: 8 * quarter + turn. */
    private static final int[] TABLES = {0, 8, 16, 24, 1, 16, 24, 15, 0, 8, 24, 16, 0, 8, 16, 24};

    private static final int POINTS_MOST = 80;
    /** 512 calls make no more: ticks end at 400 spells and 9 * 80 more, moves are one each. */
    private static final int SPELLS_MOST = 2048;
    private static final int SPELLS_FOR_TICK = 400;
    private static final int MORE_THAN_ANY = 2147483647;
    private static final int RUNS_MOST = 99;
    private static final int FAR_MOST = 2000;
    private static final int SPEED_MOST = 3;
    private static final int TICKS_MOST = 9;
    private static final int SOON_MOST = 40;
    private static final int BULK_MOST = 40;
    private static final int SEED_MOST = 99;
    private static final int MACHINES_MOST = 4;
    private static final int TILES_MOST = 20;
    private static final int MANY_FACTS = 16;
    private static final int POINT_FACTS = 10;
    private static final int PAGE_FACTS = 6;
    private static final int MACHINE_FACTS = 3;
    private static final int RIVAL_FACTS = 3;

    private final Curves curves = new Curves(FIRST_ORDER);
    private final Points points = new Points();
    private final History history = new History();
    private final Pages pages = new Pages(FIRST_ORDER, FIRST_CAPACITY);
    private final Cells cells = new Cells(FIRST_ORDER);
    private final Tiles tiles = new Tiles();
    private final Cut window = new Cut();
    private final Line line = new Line();
    private int curve;
    private int machines;
    private int searches;
    private int reads;
    private int barred;
    private int refused;

    public CurvekeyHouse() {
        curve = FIRST_CURVE;
        machines = 1;
    }

    // ---- curves

    public int design(int first, int second, int third, int fourth)
            throws IllegalArgumentException, IllegalStateException {
        needArgument(isTable(first, second, third, fourth));
        needState(curve != OWN || points.size() == 0);
        curves.redesign(first, second, third, fourth);
        return curves.factOf(OWN, 0);
    }

    public int key(int curve, int x, int y) throws IllegalArgumentException {
        needArgument(isCurve(curve) && isPlace(x, y));
        return curves.keyOf(curve, x, y);
    }

    public int place(int curve, int key, boolean isY) throws IllegalArgumentException {
        needArgument(isCurve(curve) && isKey(key));
        return isY ? curves.yOf(curve, key) : curves.xOf(curve, key);
    }

    public int ofCurve(int curve, int what) throws IllegalArgumentException {
        needArgument(isCurve(curve) && isBetween(what, 0, CURVE_FACTS - 1));
        return curves.factOf(curve, what);
    }

    public int runs(int curve, int x, int y, int wide, int high) throws IllegalArgumentException {
        needArgument(isCurve(curve) && isBox(x, y, wide, high));
        return runsOf(curve, new Box(x, y, wide, high));
    }

    public int allRuns(int curve, int wide, int high) throws IllegalArgumentException {
        needArgument(isCurve(curve) && isSize(wide, high));
        return curves.runsOfAll(curve, wide, high);
    }

    public int best(int wide, int high, boolean isBox) throws IllegalArgumentException {
        needArgument(isSize(wide, high));
        Box box = new Box(0, 0, wide, high);
        int best = 0;
        int fewest = MORE_THAN_ANY;
        for (int each = 0; each < CURVES; each++) {
            int found = isBox ? runsOf(each, box) : curves.runsOfAll(each, wide, high);
            if (found < fewest) {
                best = each;
                fewest = found;
            }
        }
        return best;
    }

    // ---- the store

    public int found(int order, int curve, int capacity) throws IllegalArgumentException {
        needArgument(isBetween(order, 1, ORDER_MOST) && isCurve(curve) && isBetween(capacity, 2, CAPACITY_MOST));
        this.curve = curve;
        curves.resize(order);
        points.clear();
        history.clear();
        pages.clear(order, capacity);
        cells.clear(order);
        tiles.clear();
        machines = 1;
        searches = 0;
        reads = 0;
        barred = 0;
        return curves.keyCount();
    }

    public int put(int x, int y) throws IllegalArgumentException, IllegalStateException {
        needArgument(isPlace(x, y));
        needState(holderAt(x, y) == NONE && points.size() < POINTS_MOST);
        return putNew(x, y);
    }

    public int bulk(int many, int seed) throws IllegalArgumentException {
        needArgument(isBetween(many, 1, BULK_MOST) && isBetween(seed, 0, SEED_MOST));
        int number = seed;
        int sown = 0;
        for (int time = 0; time < many; time++) {
            number = nextOfRow(number);
            int x = number & (curves.side() - 1);
            number = nextOfRow(number);
            int y = number & (curves.side() - 1);
            if (holderAt(x, y) == NONE && points.size() < POINTS_MOST) {
                putNew(x, y);
                sown++;
            }
        }
        return sown;
    }

    public int move(int point, int x, int y)
            throws IndexOutOfBoundsException, IllegalArgumentException, IllegalStateException {
        needIndex(points.isKnown(point));
        needArgument(isPlace(x, y));
        int there = holderAt(x, y);
        needState(points.isAlive(point) && (there == NONE || there == point));
        if (there == NONE) {
            relocate(point, x, y);
        }
        return keyAt(x, y);
    }

    public int remove(int point) throws IndexOutOfBoundsException, IllegalStateException {
        needIndex(points.isKnown(point));
        needState(points.isAlive(point));
        history.rise();
        leave(point);
        history.bid(point);
        points.bid(point);
        return history.version();
    }

    public int sweep() {
        return pages.clean();
    }

    public int ofPoint(int point, int what) throws IndexOutOfBoundsException, IllegalArgumentException {
        needIndex(points.isKnown(point));
        needArgument(isBetween(what, 0, POINT_FACTS - 1));
        return pointFact(point, what);
    }

    public int ofPage(int page, int what) throws IndexOutOfBoundsException, IllegalArgumentException {
        needIndex(isBetween(page, 0, pages.size() - 1));
        needArgument(isBetween(what, 0, PAGE_FACTS - 1));
        return pageFact(page, what);
    }

    public int many(int what) throws IllegalArgumentException {
        needArgument(isBetween(what, 0, MANY_FACTS - 1));
        return what < 8 ? storeFact(what) : countFact(what);
    }

    // ---- windows

    public int cut(int x, int y, int wide, int high, int most, int what) throws IllegalArgumentException {
        needArgument(isBox(x, y, wide, high) && isBetween(most, 1, RUNS_MOST) && isBetween(what, 0, 3));
        cutTo(new Box(x, y, wide, high), most);
        switch (what) {
            case 0:
                return window.size();
            case 1:
                return window.falseKeys();
            case 2:
                return window.pagesRead(pages);
            default:
                return window.lastBegin();
        }
    }

    public int search(int x, int y, int wide, int high, int most) throws IllegalArgumentException {
        needArgument(isBox(x, y, wide, high) && isBetween(most, 1, RUNS_MOST));
        Box box = new Box(x, y, wide, high);
        cutTo(box, most);
        reads += window.pagesRead(pages);
        searches++;
        return points.soonIn(box, 0, curves.side());
    }

    public int asOf(int x, int y, int wide, int high, int version) throws IllegalArgumentException {
        needArgument(isBox(x, y, wide, high) && isBetween(version, 0, history.version()));
        return history.livedIn(new Box(x, y, wide, high), version);
    }

    public int soon(int x, int y, int wide, int high, int ticks) throws IllegalArgumentException {
        needArgument(isBox(x, y, wide, high) && isBetween(ticks, 0, SOON_MOST));
        return points.soonIn(new Box(x, y, wide, high), ticks, curves.side());
    }

    // ---- neighbours and movers

    public int nearest(int x, int y, int nth) throws IllegalArgumentException {
        needArgument(isPlace(x, y) && nth >= 0);
        return points.nthNearest(x, y, nth);
    }

    public int proof(int x, int y, int nth) throws IllegalArgumentException {
        needArgument(isPlace(x, y) && nth >= 0);
        int point = points.nthNearest(x, y, nth);
        if (point == NONE) {
            return NONE;
        }
        cutTo(boxAround(x, y, rootAbove(points.farFrom(point, x, y))), RUNS_MOST);
        return window.pagesRead(pages);
    }

    public int reverse(int point) throws IndexOutOfBoundsException {
        needIndex(points.isKnown(point));
        return points.nearestOf(point);
    }

    public int pairs(int far) throws IllegalArgumentException {
        needArgument(isBetween(far, 0, FAR_MOST));
        return points.pairsWithin(far);
    }

    public int extreme(boolean isFarthest) {
        return points.extremeFar(isFarthest);
    }

    public int speed(int point, int x, int y)
            throws IndexOutOfBoundsException, IllegalArgumentException, IllegalStateException {
        needIndex(points.isKnown(point));
        needArgument(isBetween(x, -SPEED_MOST, SPEED_MOST) && isBetween(y, -SPEED_MOST, SPEED_MOST));
        needState(points.isAlive(point));
        points.hurry(point, x, y);
        return points.soonX(point, 1, curves.side());
    }

    public int tick(int ticks) throws IllegalArgumentException, IllegalStateException {
        needArgument(isBetween(ticks, 1, TICKS_MOST));
        needState(history.size() <= SPELLS_FOR_TICK);
        int moves = 0;
        for (int time = 0; time < ticks; time++) {
            for (int point = 0; point < points.size(); point++) {
                if (points.isAlive(point) && isDriven(point)) {
                    moves++;
                }
            }
        }
        return moves;
    }

    // ---- guesses

    public int guess(int key, boolean isTrue) throws IllegalArgumentException {
        needArgument(isKey(key));
        line.take(pages);
        return isTrue ? line.smallerThan(key) : line.guessWhole(key);
    }

    public int error() {
        line.take(pages);
        return line.errorWhole();
    }

    public int pieces(int error) throws IllegalArgumentException {
        needArgument(isBetween(error, 0, POINTS_MOST));
        line.take(pages);
        return line.piecesFor(error);
    }

    // ---- machines, blurs, tiles, a rival

    public int share(int machines) throws IllegalArgumentException {
        needArgument(isBetween(machines, 1, MACHINES_MOST));
        int changed = 0;
        for (int page = 0; page < pages.size(); page++) {
            if (pages.machineOf(page, machines) != pages.machineOf(page, this.machines)) {
                changed++;
            }
        }
        this.machines = machines;
        return changed;
    }

    public int ofMachine(int machine, int what) throws IndexOutOfBoundsException, IllegalArgumentException {
        needIndex(isBetween(machine, 0, machines - 1));
        needArgument(isBetween(what, 0, MACHINE_FACTS - 1));
        return machineFact(machine, what);
    }

    public int skew() {
        int greatest = pages.loadOf(0, machines);
        int smallest = greatest;
        for (int machine = 1; machine < machines; machine++) {
            int load = pages.loadOf(machine, machines);
            greatest = Math.max(greatest, load);
            smallest = Math.min(smallest, load);
        }
        return greatest - smallest;
    }

    public int density(int level, int cell) throws IllegalArgumentException {
        needArgument(cells.isCell(level, cell));
        return cells.countIn(level, cell);
    }

    public int fullest(int level, boolean isMost) throws IllegalArgumentException {
        needArgument(cells.isLevel(level));
        return isMost ? cells.firstFullest(level) : cells.emptyOnes(level);
    }

    public int blur(int point, int k)
            throws IndexOutOfBoundsException, IllegalArgumentException, IllegalStateException {
        needIndex(points.isKnown(point));
        needArgument(isBetween(k, 1, POINTS_MOST));
        needState(points.isAlive(point));
        return cells.deepestWith(points.x(point), points.y(point), k);
    }

    public int draw(int level, int cell) throws IllegalArgumentException, IllegalStateException {
        needArgument(cells.isCell(level, cell));
        needState(tiles.hasRoomFor(level, cell));
        int told = cells.countIn(level, cell);
        tiles.drawAnew(level, cell, told);
        return told;
    }

    public int tile(int level, int cell, boolean isStale) throws IllegalArgumentException {
        needArgument(cells.isCell(level, cell));
        return isStale ? tiles.staleness(level, cell) : tiles.toldBy(level, cell);
    }

    public int rival(int what) throws IllegalArgumentException {
        needArgument(isBetween(what, 0, RIVAL_FACTS - 1));
        return rivalFact(what);
    }

    public int rivalReads(int x, int y, int wide, int high) throws IllegalArgumentException {
        needArgument(isBox(x, y, wide, high));
        return cells.leavesIn(new Box(x, y, wide, high), pages.capacity());
    }

    // ---- all of it

    public String row(int y) throws IllegalArgumentException {
        needArgument(isBetween(y, 0, curves.side() - 1));
        StringBuilder text = new StringBuilder();
        for (int x = 0; x < curves.side(); x++) {
            int point = holderAt(x, y);
            text.append(point == NONE ? '.' : (char) ('0' + point % 10));
        }
        return text.toString();
    }

    public boolean isSound() {
        return pages.isOrdered()
                && arePointsEntered()
                && history.livedIn(wholePlane(), history.version()) == points.living();
    }

    public int knock() {
        refused++;
        return refused;
    }

    public long digest() {
        long sum = 58283;
        sum = mixStore(sum);
        sum = mixPoints(sum);
        sum = mixPages(sum);
        sum = mix(sum, points.extremeFar(true));
        sum = mix(sum, points.extremeFar(false));
        line.take(pages);
        sum = mix(sum, line.errorWhole());
        sum = mix(sum, line.piecesFor(1));
        sum = mixMachines(sum);
        for (int what = 0; what < RIVAL_FACTS; what++) {
            sum = mix(sum, rivalFact(what));
        }
        return mix(sum, isSound() ? 1 : 0);
    }

    // ---- what the calls share

    private static void needArgument(boolean isFit) {
        if (!isFit) {
            throw new IllegalArgumentException("an argument is outside what the call allows");
        }
    }

    private static void needState(boolean isFit) {
        if (!isFit) {
            throw new IllegalStateException("the store does not allow the call as it is now");
        }
    }

    private static void needIndex(boolean isThere) {
        if (!isThere) {
            throw new IndexOutOfBoundsException("there is no such number");
        }
    }

    private static boolean isBetween(int number, int least, int most) {
        return number >= least && number <= most;
    }

    private static boolean isCurve(int number) {
        return isBetween(number, 0, CURVES - 1);
    }

    private static boolean isTable(int first, int second, int third, int fourth) {
        boolean areCodes = isBetween(first, 0, 31) && isBetween(second, 0, 31)
                && isBetween(third, 0, 31) && isBetween(fourth, 0, 31);
        int named = 1 << (first >> 3) | 1 << (second >> 3) | 1 << (third >> 3) | 1 << (fourth >> 3);
        return areCodes && named == 15;
    }

    private boolean isKey(int number) {
        return isBetween(number, 0, curves.keyCount() - 1);
    }

    private boolean isPlace(int x, int y) {
        return isBetween(x, 0, curves.side() - 1) && isBetween(y, 0, curves.side() - 1);
    }

    private boolean isSize(int wide, int high) {
        return isBetween(wide, 1, curves.side()) && isBetween(high, 1, curves.side());
    }

    private boolean isBox(int x, int y, int wide, int high) {
        return isPlace(x, y) && isBetween(wide, 1, curves.side() - x) && isBetween(high, 1, curves.side() - y);
    }

    private int keyAt(int x, int y) {
        return curves.keyOf(curve, x, y);
    }

    private int keyOfPoint(int point) {
        return keyAt(points.x(point), points.y(point));
    }

    private int holderAt(int x, int y) {
        return pages.holder(keyAt(x, y));
    }

    private static int nextOfRow(int number) {
        return (37 * number + 11) % 113;
    }

    private int putNew(int x, int y) {
        history.rise();
        int point = points.take();
        history.greet(point);
        arrive(point, x, y);
        return point;
    }

    private void relocate(int point, int x, int y) {
        history.rise();
        leave(point);
        arrive(point, x, y);
    }

    private void arrive(int point, int x, int y) {
        points.stand(point, x, y);
        history.begin(point, x, y);
        pages.enter(keyAt(x, y), point);
        cells.count(x, y, 1);
        tiles.spoil(cells, x, y);
    }

    private void leave(int point) {
        int x = points.x(point);
        int y = points.y(point);
        history.end(point);
        pages.bury(keyAt(x, y));
        cells.count(x, y, -1);
        tiles.spoil(cells, x, y);
    }

    /** Whether its speed moved the point. */
    private boolean isDriven(int point) {
        int x = points.soonX(point, 1, curves.side());
        int y = points.soonY(point, 1, curves.side());
        int there = holderAt(x, y);
        if (there == NONE) {
            relocate(point, x, y);
            return true;
        }
        if (there != point) {
            barred++;
        }
        return false;
    }

    private int runsOf(int curve, Box box) {
        window.lay(curves, curve, box);
        return window.size();
    }

    private void cutTo(Box box, int most) {
        window.lay(curves, curve, box);
        window.joinTo(most);
    }

    private Box wholePlane() {
        return new Box(0, 0, curves.side(), curves.side());
    }

    private Box boxAround(int x, int y, int radius) {
        int left = Math.max(0, x - radius);
        int low = Math.max(0, y - radius);
        int right = Math.min(curves.side() - 1, x + radius);
        int top = Math.min(curves.side() - 1, y + radius);
        return new Box(left, low, right - left + 1, top - low + 1);
    }

    private static int rootAbove(int square) {
        int root = 0;
        for (int each = 0; each * each < square && each < KEYS_MOST; each++) {
            root = each + 1;
        }
        return root;
    }

    private int pointFact(int point, int what) {
        switch (what) {
            case 0:
                return points.x(point);
            case 1:
                return points.y(point);
            case 2:
                return keyOfPoint(point);
            case 3:
                return points.isAlive(point) ? 1 : 0;
            case 4:
                return history.spellsOf(point);
            case 5:
                return history.birthOf(point);
            case 6:
                return history.endOf(point);
            case 7:
                return points.isAlive(point) ? pages.pageOf(keyOfPoint(point)) : NONE;
            case 8:
                return points.speedX(point);
            default:
                return points.speedY(point);
        }
    }

    private int pageFact(int page, int what) {
        switch (what) {
            case 0:
                return pages.floorOf(page);
            case 1:
                return pages.entriesIn(page);
            case 2:
                return pages.tombsIn(page);
            case 3:
                return pages.firstIn(page);
            case 4:
                return pages.lastIn(page);
            default:
                return pages.machineOf(page, machines);
        }
    }

    private int storeFact(int what) {
        switch (what) {
            case 0:
                return curves.order();
            case 1:
                return curve;
            case 2:
                return pages.capacity();
            case 3:
                return points.size();
            case 4:
                return points.living();
            case 5:
                return pages.size();
            case 6:
                return pages.tombs();
            default:
                return history.version();
        }
    }

    private int countFact(int what) {
        switch (what) {
            case 8:
                return history.size();
            case 9:
                return reads;
            case 10:
                return searches;
            case 11:
                return machines;
            case 12:
                return tiles.size();
            case 13:
                return tiles.staleOnes();
            case 14:
                return barred;
            default:
                return pages.splits();
        }
    }

    private int machineFact(int machine, int what) {
        switch (what) {
            case 0:
                return pages.loadOf(machine, machines);
            case 1:
                return pages.ownedBy(machine, machines);
            default:
                return pages.firstFloorOf(machine, machines);
        }
    }

    private int rivalFact(int what) {
        int capacity = pages.capacity();
        return what == 0 ? cells.leavesIn(wholePlane(), capacity)
                : what == 1 ? cells.deepestLeaf(capacity) : cells.emptyLeaves(capacity);
    }

    private boolean arePointsEntered() {
        int entered = 0;
        for (int key = 0; key < curves.keyCount(); key++) {
            int point = pages.holder(key);
            if (point != NONE && (!points.isAlive(point) || keyOfPoint(point) != key)) {
                return false;
            }
            entered += point == NONE ? 0 : 1;
        }
        return entered == points.living();
    }

    private static long mix(long sum, long number) {
        return sum * 31 + number;
    }

    private long mixStore(long sum) {
        long mixed = sum;
        for (int what = 0; what < MANY_FACTS; what++) {
            mixed = mix(mixed, what < 8 ? storeFact(what) : countFact(what));
        }
        for (int each = 0; each < CURVES; each++) {
            for (int what = 0; what < CURVE_FACTS; what++) {
                mixed = mix(mixed, curves.factOf(each, what));
            }
        }
        return mixed;
    }

    private long mixPoints(long sum) {
        long mixed = sum;
        for (int point = 0; point < points.size(); point++) {
            for (int what = 0; what < POINT_FACTS; what++) {
                mixed = mix(mixed, pointFact(point, what));
            }
        }
        return mixed;
    }

    private long mixPages(long sum) {
        long mixed = sum;
        for (int page = 0; page < pages.size(); page++) {
            for (int what = 0; what < PAGE_FACTS; what++) {
                mixed = mix(mixed, pageFact(page, what));
            }
        }
        return mixed;
    }

    private long mixMachines(long sum) {
        long mixed = sum;
        for (int machine = 0; machine < machines; machine++) {
            for (int what = 0; what < MACHINE_FACTS; what++) {
                mixed = mix(mixed, machineFact(machine, what));
            }
        }
        return mix(mixed, skew());
    }

    /**
     * Numbers in a row. Every index of the program is looked at here, so that none can throw:
     * beyond the ends there is NONE, and nothing is kept.
     */
    private static final class Row {
        private final int[] numbers;

        Row(int length) {
            numbers = new int[length < 0 ? 0 : length];
        }

        int at(int index) {
            return index >= 0 && index < numbers.length ? numbers[index] : NONE;
        }

        void set(int index, int number) {
            if (index >= 0 && index < numbers.length) {
                numbers[index] = number;
            }
        }

        void add(int index, int more) {
            set(index, at(index) + more);
        }

        void fill(int number) {
            for (int index = 0; index < numbers.length; index++) {
                numbers[index] = number;
            }
        }

        /** Puts a number ahead of the one at index; size is how many there were. */
        void insert(int index, int size, int number) {
            for (int each = size; each > index; each--) {
                set(each, at(each - 1));
            }
            set(index, number);
        }

        void drop(int index, int size) {
            for (int each = index; each + 1 < size; each++) {
                set(each, at(each + 1));
            }
        }
    }

    /** Places that a window has; who makes one has looked whether it lies on the plane. */
    private static final class Box {
        private final int x;
        private final int y;
        private final int wide;
        private final int high;

        Box(int x, int y, int wide, int high) {
            this.x = x;
            this.y = y;
            this.wide = wide;
            this.high = high;
        }

        boolean has(int placeX, int placeY) {
            return placeX >= x && placeX < x + wide && placeY >= y && placeY < y + high;
        }

        boolean meets(int squareX, int squareY, int side) {
            return squareX < x + wide && squareX + side > x && squareY < y + high && squareY + side > y;
        }
    }

    /** All curves, walked once for an order: to ask a key or a place is then a look into a row. */
    private static final class Curves {
        /** Both by quarter, four for each folded curve. */
        private final Row steps = new Row(4 * (CURVES - FIRST_FOLDED));
        private final Row turns = new Row(4 * (CURVES - FIRST_FOLDED));
        private final Row keys = new Row(CURVES * KEYS_MOST);
        private final Row places = new Row(CURVES * KEYS_MOST);
        private final Row facts = new Row(CURVES * CURVE_FACTS);
        private int order;
        private int side;

        Curves(int firstOrder) {
            for (int index = 0; index < TABLES.length; index++) {
                enterStep(FIRST_FOLDED + index / 4, index % 4, TABLES[index]);
            }
            resize(firstOrder);
        }

        int order() {
            return order;
        }

        int side() {
            return side;
        }

        int keyCount() {
            return side * side;
        }

        int keyOf(int curve, int x, int y) {
            return keys.at(curve * KEYS_MOST + y * side + x);
        }

        int xOf(int curve, int key) {
            return places.at(curve * KEYS_MOST + key) & (side - 1);
        }

        int yOf(int curve, int key) {
            return places.at(curve * KEYS_MOST + key) >> order;
        }

        int factOf(int curve, int what) {
            return facts.at(curve * CURVE_FACTS + what);
        }

        void resize(int newOrder) {
            if (newOrder == order) {
                return;
            }
            order = newOrder;
            side = 1 << newOrder;
            for (int curve = 0; curve < CURVES; curve++) {
                walk(curve);
            }
        }

        void redesign(int first, int second, int third, int fourth) {
            enterStep(OWN, 0, first);
            enterStep(OWN, 1, second);
            enterStep(OWN, 2, third);
            enterStep(OWN, 3, fourth);
            walk(OWN);
        }

        private void enterStep(int curve, int step, int code) {
            int index = 4 * (curve - FIRST_FOLDED) + (code >> 3);
            steps.set(index, step);
            turns.set(index, code & 7);
        }

        /** A key begins a run of just the boxes that have its place, but not that of the key ahead. */
        int runsOfAll(int curve, int wide, int high) {
            int sum = 0;
            for (int key = 0; key < keyCount(); key++) {
                int x = xOf(curve, key);
                int y = yOf(curve, key);
                sum += spansWith(x, x, wide) * spansWith(y, y, high);
                if (key > 0) {
                    sum -= spansWith(x, xOf(curve, key - 1), wide) * spansWith(y, yOf(curve, key - 1), high);
                }
            }
            return sum;
        }

        /** How many spans of that length on the side have both. */
        private int spansWith(int one, int other, int length) {
            int first = Math.max(0, Math.max(one, other) - length + 1);
            int last = Math.min(side - length, Math.min(one, other));
            return Math.max(0, last - first + 1);
        }

        private void walk(int curve) {
            int begin = curve * KEYS_MOST;
            for (int y = 0; y < side; y++) {
                for (int x = 0; x < side; x++) {
                    int key = reckon(curve, x, y);
                    keys.set(begin + y * side + x, key);
                    places.set(begin + key, y * side + x);
                }
            }
            facts.set(curve * CURVE_FACTS, jumps(curve));
            weighNeighbours(curve);
            facts.set(curve * CURVE_FACTS + 3, isBeside(curve, 0, keyCount() - 1) ? 1 : 0);
        }

        private int reckon(int curve, int x, int y) {
            if (curve == ROWS) {
                return y * side + x;
            }
            if (curve == SNAKE) {
                return y * side + ((y & 1) == 0 ? x : side - 1 - x);
            }
            return fold(curve, x, y);
        }

        private int fold(int curve, int x, int y) {
            int key = 0;
            int restX = x;
            int restY = y;
            for (int half = side / 2; half > 0; half /= 2) {
                boolean isRight = restX >= half;
                boolean isUpper = restY >= half;
                int index = 4 * (curve - FIRST_FOLDED) + (isRight ? 1 : 0) + (isUpper ? 2 : 0);
                int turn = turns.at(index);
                int innerX = isRight ? restX - half : restX;
                int innerY = isUpper ? restY - half : restY;
                restX = (turn & 1) == 0 ? innerX : innerY;
                restY = (turn & 1) == 0 ? innerY : innerX;
                restX = (turn & 2) == 0 ? restX : half - 1 - restX;
                restY = (turn & 4) == 0 ? restY : half - 1 - restY;
                key += steps.at(index) * half * half;
            }
            return key;
        }

        private int jumps(int curve) {
            int jumps = 0;
            for (int key = 0; key + 1 < keyCount(); key++) {
                if (!isBeside(curve, key, key + 1)) {
                    jumps++;
                }
            }
            return jumps;
        }

        private boolean isBeside(int curve, int key, int other) {
            int wide = Math.abs(xOf(curve, key) - xOf(curve, other));
            int high = Math.abs(yOf(curve, key) - yOf(curve, other));
            return wide + high == 1;
        }

        private void weighNeighbours(int curve) {
            int greatest = 0;
            int sum = 0;
            for (int y = 0; y < side; y++) {
                for (int x = 0; x < side; x++) {
                    int right = x + 1 < side ? Math.abs(keyOf(curve, x, y) - keyOf(curve, x + 1, y)) : 0;
                    int upper = y + 1 < side ? Math.abs(keyOf(curve, x, y) - keyOf(curve, x, y + 1)) : 0;
                    greatest = Math.max(greatest, Math.max(right, upper));
                    sum += right + upper;
                }
            }
            facts.set(curve * CURVE_FACTS + 1, greatest);
            facts.set(curve * CURVE_FACTS + 2, sum);
        }
    }

    /** The runs of one box, as a call laid them last; they are laid anew for each call. */
    private static final class Cut {
        private final Row begins = new Row(KEYS_MOST);
        private final Row ends = new Row(KEYS_MOST);
        private int size;
        private int falseKeys;

        int size() {
            return size;
        }

        int falseKeys() {
            return falseKeys;
        }

        int lastBegin() {
            return begins.at(size - 1);
        }

        void lay(Curves curves, int curve, Box box) {
            size = 0;
            falseKeys = 0;
            boolean isWithin = false;
            for (int key = 0; key < curves.keyCount(); key++) {
                boolean has = box.has(curves.xOf(curve, key), curves.yOf(curve, key));
                if (has && !isWithin) {
                    begins.set(size, key);
                    size++;
                }
                if (has) {
                    ends.set(size - 1, key);
                }
                isWithin = has;
            }
        }

        void joinTo(int most) {
            for (int over = size - most; over > 0; over--) {
                joinBehind(closest());
            }
        }

        private int gapBehind(int run) {
            return begins.at(run + 1) - ends.at(run) - 1;
        }

        private int closest() {
            int closest = 0;
            for (int run = 1; run + 1 < size; run++) {
                if (gapBehind(run) < gapBehind(closest)) {
                    closest = run;
                }
            }
            return closest;
        }

        private void joinBehind(int run) {
            falseKeys += gapBehind(run);
            begins.drop(run + 1, size);
            ends.drop(run, size);
            size--;
        }

        /** Runs rise, so pages do: each is counted by the first run that has a key of it. */
        int pagesRead(Pages pages) {
            int read = 0;
            int last = NONE;
            for (int run = 0; run < size; run++) {
                int first = Math.max(last + 1, pages.pageOf(begins.at(run)));
                last = pages.pageOf(ends.at(run));
                read += last - first + 1;
            }
            return read;
        }
    }

    /**
     * The pages: what each key holds, and where pages begin; so a page's entries are in order by themselves.
     * Behind the last floor stands how many keys there are, as if a page more began there.
     */
    private static final class Pages {
        private final Row holds = new Row(KEYS_MOST);
        private final Row floors = new Row(KEYS_MOST + 1);
        private int keys;
        private int capacity;
        private int size;
        private int tombs;
        private int splits;

        Pages(int firstOrder, int firstCapacity) {
            clear(firstOrder, firstCapacity);
        }

        void clear(int order, int newCapacity) {
            keys = 1 << (2 * order);
            capacity = newCapacity;
            holds.fill(EMPTY);
            floors.set(0, 0);
            floors.set(1, keys);
            size = 1;
            tombs = 0;
            splits = 0;
        }

        int size() {
            return size;
        }

        int capacity() {
            return capacity;
        }

        int tombs() {
            return tombs;
        }

        int splits() {
            return splits;
        }

        int keyCount() {
            return keys;
        }

        int floorOf(int page) {
            return floors.at(page);
        }

        int pageOf(int key) {
            int page = 0;
            for (int next = 1; next < size && floors.at(next) <= key; next++) {
                page = next;
            }
            return page;
        }

        int holder(int key) {
            return Math.max(NONE, holds.at(key));
        }

        int entriesIn(int page) {
            int entries = 0;
            int roof = floors.at(page + 1);
            for (int key = floors.at(page); key < roof; key++) {
                if (holds.at(key) != EMPTY) {
                    entries++;
                }
            }
            return entries;
        }

        int tombsIn(int page) {
            int found = 0;
            int roof = floors.at(page + 1);
            for (int key = floors.at(page); key < roof; key++) {
                if (holds.at(key) == TOMB) {
                    found++;
                }
            }
            return found;
        }

        int firstIn(int page) {
            return entryIn(page, 0);
        }

        int lastIn(int page) {
            return entryIn(page, entriesIn(page) - 1);
        }

        /** The key of the nth entry of the page, from 0 on. */
        private int entryIn(int page, int nth) {
            int ahead = 0;
            int roof = floors.at(page + 1);
            for (int key = floors.at(page); key < roof; key++) {
                if (holds.at(key) != EMPTY) {
                    if (ahead == nth) {
                        return key;
                    }
                    ahead++;
                }
            }
            return NONE;
        }

        int machineOf(int page, int machines) {
            return size < 1 ? 0 : page * machines / size;
        }

        int loadOf(int machine, int machines) {
            int load = 0;
            for (int page = 0; page < size; page++) {
                if (machineOf(page, machines) == machine) {
                    load += entriesIn(page) - tombsIn(page);
                }
            }
            return load;
        }

        int ownedBy(int machine, int machines) {
            int owned = 0;
            for (int page = 0; page < size; page++) {
                if (machineOf(page, machines) == machine) {
                    owned++;
                }
            }
            return owned;
        }

        int firstFloorOf(int machine, int machines) {
            for (int page = 0; page < size; page++) {
                if (machineOf(page, machines) == machine) {
                    return floors.at(page);
                }
            }
            return NONE;
        }

        void enter(int key, int point) {
            if (holds.at(key) == TOMB) {
                tombs--;
            }
            holds.set(key, point);
            int page = pageOf(key);
            int entries = entriesIn(page);
            if (entries > capacity) {
                floors.insert(page + 1, size + 1, entryIn(page, entries / 2));
                size++;
                splits++;
            }
        }

        void bury(int key) {
            holds.set(key, TOMB);
            tombs++;
        }

        /** How many tombs went. */
        int clean() {
            int gone = tombs;
            for (int key = 0; key < keys; key++) {
                if (holds.at(key) == TOMB) {
                    holds.set(key, EMPTY);
                }
            }
            tombs = 0;
            joinSmall();
            return gone;
        }

        /** A joined page has more than before, so none ahead of it can join any more: one walk is enough. */
        private void joinSmall() {
            int page = 0;
            for (int left = size; left > 1; left--) {
                if (entriesIn(page) + entriesIn(page + 1) <= capacity / 2) {
                    floors.drop(page + 1, size + 1);
                    size--;
                } else {
                    page++;
                }
            }
        }

        boolean isOrdered() {
            if (floors.at(0) != 0) {
                return false;
            }
            for (int page = 0; page < size; page++) {
                if (entriesIn(page) > capacity || floors.at(page + 1) <= floors.at(page)) {
                    return false;
                }
            }
            return true;
        }
    }

    /** Where points are now, or were last, and where they go. */
    private static final class Points {
        private final Row xs = new Row(POINTS_MOST);
        private final Row ys = new Row(POINTS_MOST);
        private final Row alive = new Row(POINTS_MOST);
        private final Row speedXs = new Row(POINTS_MOST);
        private final Row speedYs = new Row(POINTS_MOST);
        private int size;
        private int living;

        void clear() {
            size = 0;
            living = 0;
        }

        int size() {
            return size;
        }

        int living() {
            return living;
        }

        boolean isKnown(int point) {
            return point >= 0 && point < size;
        }

        boolean isAlive(int point) {
            return isKnown(point) && alive.at(point) == 1;
        }

        int x(int point) {
            return xs.at(point);
        }

        int y(int point) {
            return ys.at(point);
        }

        int speedX(int point) {
            return speedXs.at(point);
        }

        int speedY(int point) {
            return speedYs.at(point);
        }

        int take() {
            int point = size;
            alive.set(point, 1);
            hurry(point, 0, 0);
            size++;
            living++;
            return point;
        }

        void stand(int point, int x, int y) {
            xs.set(point, x);
            ys.set(point, y);
        }

        void hurry(int point, int x, int y) {
            speedXs.set(point, x);
            speedYs.set(point, y);
        }

        void bid(int point) {
            alive.set(point, 0);
            living--;
        }

        /** To hold at the end is to hold each time, as a speed never turns. */
        int soonX(int point, int ticks, int side) {
            return Math.max(0, Math.min(side - 1, x(point) + ticks * speedX(point)));
        }

        int soonY(int point, int ticks, int side) {
            return Math.max(0, Math.min(side - 1, y(point) + ticks * speedY(point)));
        }

        int soonIn(Box box, int ticks, int side) {
            int found = 0;
            for (int point = 0; point < size; point++) {
                if (isAlive(point) && box.has(soonX(point, ticks, side), soonY(point, ticks, side))) {
                    found++;
                }
            }
            return found;
        }

        int farFrom(int point, int x, int y) {
            int wide = x(point) - x;
            int high = y(point) - y;
            return wide * wide + high * high;
        }

        int nthNearest(int x, int y, int nth) {
            for (int point = 0; point < size; point++) {
                if (isAlive(point) && nearerThan(point, x, y) == nth) {
                    return point;
                }
            }
            return NONE;
        }

        private int nearerThan(int point, int x, int y) {
            int far = farFrom(point, x, y);
            int nearer = 0;
            for (int other = 0; other < size; other++) {
                int otherFar = farFrom(other, x, y);
                if (isAlive(other) && (otherFar < far || otherFar == far && other < point)) {
                    nearer++;
                }
            }
            return nearer;
        }

        int nearestOf(int point) {
            int found = 0;
            for (int other = 0; other < size; other++) {
                if (isAlive(point) && isAlive(other) && other != point && nearestTo(other) == point) {
                    found++;
                }
            }
            return found;
        }

        private int nearestTo(int point) {
            int nearest = NONE;
            int least = MORE_THAN_ANY;
            for (int other = 0; other < size; other++) {
                int far = farFrom(other, x(point), y(point));
                if (isAlive(other) && other != point && far < least) {
                    nearest = other;
                    least = far;
                }
            }
            return nearest;
        }

        int pairsWithin(int most) {
            int found = 0;
            for (int point = 0; point < size; point++) {
                for (int other = 0; other < point; other++) {
                    if (isPair(point, other) && farFrom(point, x(other), y(other)) <= most) {
                        found++;
                    }
                }
            }
            return found;
        }

        private boolean isPair(int point, int other) {
            return isAlive(point) && isAlive(other);
        }

        int extremeFar(boolean isFarthest) {
            int extreme = NONE;
            for (int point = 0; point < size; point++) {
                for (int other = 0; other < point; other++) {
                    int far = farFrom(point, x(other), y(other));
                    if (isPair(point, other) && (extreme == NONE || (isFarthest ? far > extreme : far < extreme))) {
                        extreme = far;
                    }
                }
            }
            return extreme;
        }
    }

    /** Versions, and the spells of points between them. */
    private static final class History {
        private final Row xs = new Row(SPELLS_MOST);
        private final Row ys = new Row(SPELLS_MOST);
        private final Row begins = new Row(SPELLS_MOST);
        private final Row ends = new Row(SPELLS_MOST);
        private final Row lastSpells = new Row(POINTS_MOST);
        private final Row spellCounts = new Row(POINTS_MOST);
        private final Row births = new Row(POINTS_MOST);
        private final Row farewells = new Row(POINTS_MOST);
        private int size;
        private int version;

        void clear() {
            size = 0;
            version = 0;
        }

        int size() {
            return size;
        }

        int version() {
            return version;
        }

        int spellsOf(int point) {
            return spellCounts.at(point);
        }

        int birthOf(int point) {
            return births.at(point);
        }

        int endOf(int point) {
            return farewells.at(point);
        }

        void rise() {
            version++;
        }

        void greet(int point) {
            spellCounts.set(point, 0);
            births.set(point, version);
            farewells.set(point, NONE);
        }

        void bid(int point) {
            farewells.set(point, version);
        }

        void begin(int point, int x, int y) {
            xs.set(size, x);
            ys.set(size, y);
            begins.set(size, version);
            ends.set(size, MORE_THAN_ANY);
            lastSpells.set(point, size);
            spellCounts.add(point, 1);
            size++;
        }

        void end(int point) {
            ends.set(lastSpells.at(point), version);
        }

        int livedIn(Box box, int then) {
            int lived = 0;
            for (int spell = 0; spell < size && spell < SPELLS_MOST; spell++) {
                if (begins.at(spell) <= then && then < ends.at(spell) && box.has(xs.at(spell), ys.at(spell))) {
                    lived++;
                }
            }
            return lived;
        }
    }

    /** The row of living points' keys, and lines through it. */
    private static final class Line {
        private final Row keys = new Row(POINTS_MOST);
        private int size;

        void take(Pages pages) {
            size = 0;
            for (int key = 0; key < pages.keyCount(); key++) {
                if (pages.holder(key) != NONE) {
                    keys.set(size, key);
                    size++;
                }
            }
        }

        int smallerThan(int key) {
            int smaller = 0;
            for (int index = 0; index < size; index++) {
                if (keys.at(index) < key) {
                    smaller++;
                }
            }
            return smaller;
        }

        int guessWhole(int key) {
            if (size == 0) {
                return NONE;
            }
            return guessOn(0, size - 1, Math.max(keys.at(0), Math.min(keys.at(size - 1), key)));
        }

        int errorWhole() {
            return size == 0 ? NONE : errorOn(0, size - 1);
        }

        /** A line that cannot go on ends ahead of the key with which the next one begins. */
        int piecesFor(int most) {
            int pieces = 0;
            int first = 0;
            for (int last = 0; last < size; last++) {
                if (last == 0 || errorOn(first, last) > most) {
                    pieces++;
                    first = last;
                }
            }
            return pieces;
        }

        private int guessOn(int first, int last, int key) {
            int least = keys.at(first);
            int wide = keys.at(last) - least;
            return wide <= 0 ? first : first + (key - least) * (last - first) / wide;
        }

        private int errorOn(int first, int last) {
            int error = 0;
            for (int index = first; index <= last; index++) {
                error = Math.max(error, Math.abs(guessOn(first, last, keys.at(index)) - index));
            }
            return error;
        }
    }

    /** How many points live in each cell of each level; the rival's squares are these cells. */
    private static final class Cells {
        private final Row counts = new Row(CELLS_MOST);
        private int order;

        Cells(int firstOrder) {
            clear(firstOrder);
        }

        void clear(int newOrder) {
            order = newOrder;
            counts.fill(0);
        }

        boolean isLevel(int level) {
            return level >= 0 && level <= order;
        }

        boolean isCell(int level, int cell) {
            return isLevel(level) && cell >= 0 && cell < cellsOf(level);
        }

        private static int cellsOf(int level) {
            return 1 << (2 * level);
        }

        /** Levels stand behind each other: 1, 4, 16 cells and so on. */
        private static int indexOf(int level, int cell) {
            return (cellsOf(level) - 1) / 3 + cell;
        }

        int cellAt(int level, int x, int y) {
            int shift = order - level;
            return ((y >> shift) << level) + (x >> shift);
        }

        int countIn(int level, int cell) {
            return counts.at(indexOf(level, cell));
        }

        void count(int x, int y, int more) {
            for (int level = 0; level <= order; level++) {
                counts.add(indexOf(level, cellAt(level, x, y)), more);
            }
        }

        int firstFullest(int level) {
            int fullest = 0;
            for (int cell = 1; cell < cellsOf(level); cell++) {
                if (countIn(level, cell) > countIn(level, fullest)) {
                    fullest = cell;
                }
            }
            return fullest;
        }

        int emptyOnes(int level) {
            int empty = 0;
            for (int cell = 0; cell < cellsOf(level); cell++) {
                if (countIn(level, cell) == 0) {
                    empty++;
                }
            }
            return empty;
        }

        int deepestWith(int x, int y, int least) {
            for (int level = order; level >= 0; level--) {
                if (countIn(level, cellAt(level, x, y)) >= least) {
                    return level;
                }
            }
            return NONE;
        }

        /** A square has no more points than the one around it: to look one level up is enough. */
        private boolean isLeaf(int level, int cell, int capacity) {
            boolean isReached = level == 0 || countIn(level - 1, parentOf(level, cell)) > capacity;
            return isReached && (level == order || countIn(level, cell) <= capacity);
        }

        private static int columnOf(int level, int cell) {
            return cell & ((1 << level) - 1);
        }

        private static int parentOf(int level, int cell) {
            return (((cell >> level) >> 1) << (level - 1)) + (columnOf(level, cell) >> 1);
        }

        int leavesIn(Box box, int capacity) {
            int leaves = 0;
            for (int level = 0; level <= order; level++) {
                int shift = order - level;
                for (int cell = 0; cell < cellsOf(level); cell++) {
                    int x = columnOf(level, cell) << shift;
                    int y = (cell >> level) << shift;
                    if (isLeaf(level, cell, capacity) && box.meets(x, y, 1 << shift)) {
                        leaves++;
                    }
                }
            }
            return leaves;
        }

        int deepestLeaf(int capacity) {
            int deepest = 0;
            for (int level = 0; level <= order; level++) {
                for (int cell = 0; cell < cellsOf(level); cell++) {
                    if (isLeaf(level, cell, capacity)) {
                        deepest = level;
                    }
                }
            }
            return deepest;
        }

        int emptyLeaves(int capacity) {
            int empty = 0;
            for (int level = 0; level <= order; level++) {
                for (int cell = 0; cell < cellsOf(level); cell++) {
                    if (isLeaf(level, cell, capacity) && countIn(level, cell) == 0) {
                        empty++;
                    }
                }
            }
            return empty;
        }
    }

    /** What was drawn, and whether it is old. */
    private static final class Tiles {
        private final Row levels = new Row(TILES_MOST);
        private final Row cellsDrawn = new Row(TILES_MOST);
        private final Row told = new Row(TILES_MOST);
        private final Row stale = new Row(TILES_MOST);
        private int size;

        void clear() {
            size = 0;
        }

        int size() {
            return size;
        }

        private int find(int level, int cell) {
            for (int index = 0; index < size; index++) {
                if (levels.at(index) == level && cellsDrawn.at(index) == cell) {
                    return index;
                }
            }
            return NONE;
        }

        boolean hasRoomFor(int level, int cell) {
            return size < TILES_MOST || find(level, cell) != NONE;
        }

        void drawAnew(int level, int cell, int count) {
            int index = find(level, cell);
            if (index == NONE) {
                index = size;
                size++;
            }
            levels.set(index, level);
            cellsDrawn.set(index, cell);
            told.set(index, count);
            stale.set(index, 0);
        }

        /** NONE, as a row answers beyond its ends, when it is not drawn. */
        int staleness(int level, int cell) {
            return stale.at(find(level, cell));
        }

        int toldBy(int level, int cell) {
            return told.at(find(level, cell));
        }

        int staleOnes() {
            int found = 0;
            for (int index = 0; index < size; index++) {
                found += stale.at(index);
            }
            return found;
        }

        void spoil(Cells cells, int x, int y) {
            for (int index = 0; index < size; index++) {
                if (cells.cellAt(levels.at(index), x, y) == cellsDrawn.at(index)) {
                    stale.set(index, 1);
                }
            }
        }
    }
}
