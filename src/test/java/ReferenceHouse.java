import java.util.ArrayList;
import java.util.HashMap;
import java.util.List;
import java.util.Map;
import java.util.TreeSet;

/** The document once more, word by word and without any thrift, to compare the class with. */
final class ReferenceHouse {
    private static final class Point {
        int number;
        int x;
        int y;
        boolean lives = true;
        int gone = -1;
        int speedX;
        int speedY;
        final List<int[]> spells = new ArrayList<>();
    }

    private static final class Entry {
        int key;
        Point point;
    }

    private static final class Page {
        int floor;
        final List<Entry> entries = new ArrayList<>();
    }

    private static final class Tile {
        int tells;
        boolean stale;
    }

    private final int[][] quarters = {{0, 1, 2, 3}, {0, 2, 3, 1}, {0, 1, 3, 2}, {0, 1, 2, 3}};
    private final int[][] turns = {{0, 0, 0, 0}, {1, 0, 0, 7}, {0, 0, 0, 0}, {0, 0, 0, 0}};
    private int order = 3;
    private int curve = 3;
    private int capacity = 4;
    private List<Point> points = new ArrayList<>();
    private List<Page> pages = new ArrayList<>();
    private Map<String, Tile> tiles = new HashMap<>();
    private int version;
    private int reads;
    private int searches;
    private int machines = 1;
    private int barred;
    private int splits;
    private int refused;

    ReferenceHouse() {
        pages.add(new Page());
    }

    private int side() {
        int side = 1;
        for (int i = 0; i < order; i++) {
            side *= 2;
        }
        return side;
    }

    private static void argument(boolean fit) {
        if (!fit) {
            throw new IllegalArgumentException();
        }
    }

    private static void state(boolean fit) {
        if (!fit) {
            throw new IllegalStateException();
        }
    }

    private static void index(boolean fit) {
        if (!fit) {
            throw new IndexOutOfBoundsException();
        }
    }

    private boolean isPlace(int x, int y) {
        return x >= 0 && y >= 0 && x < side() && y < side();
    }

    private boolean isCurve(int c) {
        return c >= 0 && c <= 5;
    }

    private boolean isBox(int x, int y, int wide, int high) {
        return isPlace(x, y) && wide >= 1 && high >= 1 && (long) x + wide <= side() && (long) y + high <= side();
    }

    private int keyIn(int table, int n, int x, int y) {
        if (n == 1) {
            return 0;
        }
        int h = n / 2;
        int quarter = x / h + 2 * (y / h);
        for (int i = 0; i < 4; i++) {
            if (quarters[table][i] == quarter) {
                int tx = x % h;
                int ty = y % h;
                int turn = turns[table][i];
                if (turn % 2 == 1) {
                    int swap = tx;
                    tx = ty;
                    ty = swap;
                }
                if (turn / 2 % 2 == 1) {
                    tx = h - 1 - tx;
                }
                if (turn / 4 == 1) {
                    ty = h - 1 - ty;
                }
                return i * h * h + keyIn(table, h, tx, ty);
            }
        }
        throw new IllegalStateException("no such quarter");
    }

    private int keyOf(int c, int x, int y) {
        if (c == 0) {
            return y * side() + x;
        }
        if (c == 1) {
            return y % 2 == 0 ? y * side() + x : y * side() + side() - 1 - x;
        }
        return keyIn(c - 2, side(), x, y);
    }

    private int[][] placesOf(int c) {
        int[][] places = new int[side() * side()][];
        for (int x = 0; x < side(); x++) {
            for (int y = 0; y < side(); y++) {
                places[keyOf(c, x, y)] = new int[] {x, y};
            }
        }
        return places;
    }

    private static boolean beside(int[] a, int[] b) {
        return a[0] == b[0] && Math.abs(a[1] - b[1]) == 1 || a[1] == b[1] && Math.abs(a[0] - b[0]) == 1;
    }

    int design(int a, int b, int c, int d) {
        int[] codes = {a, b, c, d};
        TreeSet<Integer> named = new TreeSet<>();
        for (int code : codes) {
            argument(code >= 0 && code <= 31);
            named.add(code / 8);
        }
        argument(named.size() == 4);
        state(curve != 5 || points.isEmpty());
        for (int i = 0; i < 4; i++) {
            quarters[3][i] = codes[i] / 8;
            turns[3][i] = codes[i] % 8;
        }
        return ofCurve(5, 0);
    }

    int key(int c, int x, int y) {
        argument(isCurve(c) && isPlace(x, y));
        return keyOf(c, x, y);
    }

    int place(int c, int key, boolean isY) {
        argument(isCurve(c) && key >= 0 && key < side() * side());
        return placesOf(c)[key][isY ? 1 : 0];
    }

    int ofCurve(int c, int what) {
        argument(isCurve(c) && what >= 0 && what <= 3);
        int[][] places = placesOf(c);
        if (what == 3) {
            return beside(places[places.length - 1], places[0]) ? 1 : 0;
        }
        int jumps = 0;
        int greatest = 0;
        int sum = 0;
        for (int k = 0; k + 1 < places.length; k++) {
            jumps += beside(places[k], places[k + 1]) ? 0 : 1;
        }
        for (int x = 0; x < side(); x++) {
            for (int y = 0; y < side(); y++) {
                for (int[] next : new int[][] {{x + 1, y}, {x, y + 1}}) {
                    if (isPlace(next[0], next[1])) {
                        int differ = Math.abs(keyOf(c, x, y) - keyOf(c, next[0], next[1]));
                        greatest = Math.max(greatest, differ);
                        sum += differ;
                    }
                }
            }
        }
        return what == 0 ? jumps : what == 1 ? greatest : sum;
    }

    private List<int[]> runsOf(int c, int x, int y, int wide, int high) {
        TreeSet<Integer> keys = new TreeSet<>();
        for (int i = 0; i < wide; i++) {
            for (int j = 0; j < high; j++) {
                keys.add(keyOf(c, x + i, y + j));
            }
        }
        List<int[]> runs = new ArrayList<>();
        for (int key : keys) {
            if (!runs.isEmpty() && runs.get(runs.size() - 1)[1] == key - 1) {
                runs.get(runs.size() - 1)[1] = key;
            } else {
                runs.add(new int[] {key, key});
            }
        }
        return runs;
    }

    int runs(int c, int x, int y, int wide, int high) {
        argument(isCurve(c) && isBox(x, y, wide, high));
        return runsOf(c, x, y, wide, high).size();
    }

    int allRuns(int c, int wide, int high) {
        argument(isCurve(c) && wide >= 1 && wide <= side() && high >= 1 && high <= side());
        int sum = 0;
        for (int x = 0; x + wide <= side(); x++) {
            for (int y = 0; y + high <= side(); y++) {
                sum += runsOf(c, x, y, wide, high).size();
            }
        }
        return sum;
    }

    int best(int wide, int high, boolean isBox) {
        argument(wide >= 1 && wide <= side() && high >= 1 && high <= side());
        int best = -1;
        int fewest = 0;
        for (int c = 0; c <= 5; c++) {
            int runs = isBox ? runs(c, 0, 0, wide, high) : allRuns(c, wide, high);
            if (best < 0 || runs < fewest) {
                best = c;
                fewest = runs;
            }
        }
        return best;
    }

    int found(int newOrder, int newCurve, int newCapacity) {
        argument(newOrder >= 1 && newOrder <= 5 && isCurve(newCurve) && newCapacity >= 2 && newCapacity <= 8);
        order = newOrder;
        curve = newCurve;
        capacity = newCapacity;
        points = new ArrayList<>();
        pages = new ArrayList<>();
        pages.add(new Page());
        tiles = new HashMap<>();
        version = 0;
        reads = 0;
        searches = 0;
        machines = 1;
        barred = 0;
        splits = 0;
        return side() * side();
    }

    private Point at(int x, int y) {
        for (Point p : points) {
            if (p.lives && p.x == x && p.y == y) {
                return p;
            }
        }
        return null;
    }

    private Page pageOf(int key) {
        Page found = null;
        for (Page page : pages) {
            if (page.floor <= key) {
                found = page;
            }
        }
        return found;
    }

    private void enter(int key, Point point) {
        Page page = pageOf(key);
        int ahead = 0;
        for (Entry entry : page.entries) {
            if (entry.key == key) {
                entry.point = point;
                return;
            }
            if (entry.key < key) {
                ahead++;
            }
        }
        Entry entry = new Entry();
        entry.key = key;
        entry.point = point;
        page.entries.add(ahead, entry);
        if (page.entries.size() > capacity) {
            int kept = page.entries.size() / 2;
            Page next = new Page();
            while (page.entries.size() > kept) {
                next.entries.add(page.entries.remove(kept));
            }
            next.floor = next.entries.get(0).key;
            pages.add(pages.indexOf(page) + 1, next);
            splits++;
        }
    }

    private void bury(int key) {
        for (Entry entry : pageOf(key).entries) {
            if (entry.key == key) {
                entry.point = null;
            }
        }
    }

    private void spoil(int x, int y) {
        for (int level = 0; level <= order; level++) {
            Tile tile = tiles.get(level + ":" + cellOf(level, x, y));
            if (tile != null) {
                tile.stale = true;
            }
        }
    }

    private int columns(int level) {
        int columns = 1;
        for (int i = 0; i < level; i++) {
            columns *= 2;
        }
        return columns;
    }

    private int cellOf(int level, int x, int y) {
        int wide = side() / columns(level);
        return y / wide * columns(level) + x / wide;
    }

    private void come(Point p, int x, int y) {
        p.x = x;
        p.y = y;
        p.spells.add(new int[] {x, y, version, Integer.MAX_VALUE});
        enter(keyOf(curve, x, y), p);
        spoil(x, y);
    }

    private void go(Point p) {
        p.spells.get(p.spells.size() - 1)[3] = version;
        bury(keyOf(curve, p.x, p.y));
        spoil(p.x, p.y);
    }

    int put(int x, int y) {
        argument(isPlace(x, y));
        state(at(x, y) == null && points.size() < 80);
        version++;
        Point p = new Point();
        p.number = points.size();
        points.add(p);
        come(p, x, y);
        return p.number;
    }

    int bulk(int many, int seed) {
        argument(many >= 1 && many <= 40 && seed >= 0 && seed <= 99);
        List<Integer> row = new ArrayList<>();
        int ahead = seed;
        while (row.size() < 2 * many) {
            ahead = (37 * ahead + 11) % 113;
            row.add(ahead);
        }
        int before = points.size();
        for (int i = 0; i < many; i++) {
            int x = row.get(2 * i) % side();
            int y = row.get(2 * i + 1) % side();
            if (at(x, y) == null && points.size() < 80) {
                put(x, y);
            }
        }
        return points.size() - before;
    }

    private Point point(int number) {
        index(number >= 0 && number < points.size());
        return points.get(number);
    }

    int move(int number, int x, int y) {
        Point p = point(number);
        argument(isPlace(x, y));
        state(p.lives && (at(x, y) == null || at(x, y) == p));
        if (p.x != x || p.y != y) {
            version++;
            go(p);
            come(p, x, y);
        }
        return keyOf(curve, x, y);
    }

    int remove(int number) {
        Point p = point(number);
        state(p.lives);
        version++;
        go(p);
        p.lives = false;
        p.gone = version;
        return version;
    }

    int sweep() {
        int went = 0;
        for (Page page : pages) {
            int before = page.entries.size();
            page.entries.removeIf(entry -> entry.point == null);
            went += before - page.entries.size();
        }
        boolean again = true;
        while (again) {
            again = false;
            for (int i = 0; i + 1 < pages.size() && !again; i++) {
                if (pages.get(i).entries.size() + pages.get(i + 1).entries.size() <= capacity / 2) {
                    pages.get(i).entries.addAll(pages.remove(i + 1).entries);
                    again = true;
                }
            }
        }
        return went;
    }

    int ofPoint(int number, int what) {
        Point p = point(number);
        argument(what >= 0 && what <= 9);
        int key = keyOf(curve, p.x, p.y);
        int[] facts = {p.x, p.y, key, p.lives ? 1 : 0, p.spells.size(), p.spells.get(0)[2], p.gone,
            p.lives ? pages.indexOf(pageOf(key)) : -1, p.speedX, p.speedY};
        return facts[what];
    }

    private int tombsIn(Page page) {
        int tombs = 0;
        for (Entry entry : page.entries) {
            tombs += entry.point == null ? 1 : 0;
        }
        return tombs;
    }

    private int machineOf(int page, int m) {
        return page * m / pages.size();
    }

    int ofPage(int number, int what) {
        index(number >= 0 && number < pages.size());
        argument(what >= 0 && what <= 5);
        Page page = pages.get(number);
        int size = page.entries.size();
        int[] facts = {page.floor, size, tombsIn(page), size == 0 ? -1 : page.entries.get(0).key,
            size == 0 ? -1 : page.entries.get(size - 1).key, machineOf(number, machines)};
        return facts[what];
    }

    private int living() {
        return (int) points.stream().filter(p -> p.lives).count();
    }

    int many(int what) {
        argument(what >= 0 && what <= 15);
        int tombs = 0;
        for (Page page : pages) {
            tombs += tombsIn(page);
        }
        int spells = 0;
        for (Point p : points) {
            spells += p.spells.size();
        }
        int stale = (int) tiles.values().stream().filter(t -> t.stale).count();
        int[] facts = {order, curve, capacity, points.size(), living(), pages.size(), tombs, version, spells,
            reads, searches, machines, tiles.size(), stale, barred, splits};
        return facts[what];
    }

    private List<int[]> cutRuns(int x, int y, int wide, int high, int most) {
        List<int[]> runs = runsOf(curve, x, y, wide, high);
        while (runs.size() > most) {
            int best = 0;
            for (int i = 0; i + 1 < runs.size(); i++) {
                if (runs.get(i + 1)[0] - runs.get(i)[1] < runs.get(best + 1)[0] - runs.get(best)[1]) {
                    best = i;
                }
            }
            runs.get(best)[1] = runs.remove(best + 1)[1];
        }
        return runs;
    }

    private int readBy(List<int[]> runs) {
        int read = 0;
        for (int i = 0; i < pages.size(); i++) {
            int floor = pages.get(i).floor;
            int roof = i + 1 < pages.size() ? pages.get(i + 1).floor : side() * side();
            boolean has = false;
            for (int[] run : runs) {
                for (int key = run[0]; key <= run[1]; key++) {
                    has |= key >= floor && key < roof;
                }
            }
            read += has ? 1 : 0;
        }
        return read;
    }

    private static boolean in(int px, int py, int x, int y, int wide, int high) {
        return px >= x && px <= x + wide - 1 && py >= y && py <= y + high - 1;
    }

    int cut(int x, int y, int wide, int high, int most, int what) {
        argument(isBox(x, y, wide, high) && most >= 1 && most <= 99 && what >= 0 && what <= 3);
        List<int[]> runs = cutRuns(x, y, wide, high, most);
        int[][] places = placesOf(curve);
        int wrong = 0;
        for (int[] run : runs) {
            for (int key = run[0]; key <= run[1]; key++) {
                wrong += in(places[key][0], places[key][1], x, y, wide, high) ? 0 : 1;
            }
        }
        return what == 0 ? runs.size() : what == 1 ? wrong : what == 2 ? readBy(runs) : runs.get(runs.size() - 1)[0];
    }

    int search(int x, int y, int wide, int high, int most) {
        argument(isBox(x, y, wide, high) && most >= 1 && most <= 99);
        reads += readBy(cutRuns(x, y, wide, high, most));
        searches++;
        return soon(x, y, wide, high, 0);
    }

    int asOf(int x, int y, int wide, int high, int then) {
        argument(isBox(x, y, wide, high) && then >= 0 && then <= version);
        int found = 0;
        for (Point p : points) {
            for (int[] spell : p.spells) {
                found += spell[2] <= then && then < spell[3] && in(spell[0], spell[1], x, y, wide, high) ? 1 : 0;
            }
        }
        return found;
    }

    private int held(int number) {
        return number < 0 ? 0 : number > side() - 1 ? side() - 1 : number;
    }

    int soon(int x, int y, int wide, int high, int ticks) {
        argument(isBox(x, y, wide, high) && ticks >= 0 && ticks <= 40);
        int found = 0;
        for (Point p : points) {
            int px = p.x;
            int py = p.y;
            for (int i = 0; i < ticks; i++) {
                px = held(px + p.speedX);
                py = held(py + p.speedY);
            }
            found += p.lives && in(px, py, x, y, wide, high) ? 1 : 0;
        }
        return found;
    }

    private static int far(Point p, int x, int y) {
        return (p.x - x) * (p.x - x) + (p.y - y) * (p.y - y);
    }

    private List<Point> nearestFirst(int x, int y) {
        List<Point> row = new ArrayList<>();
        for (Point p : points) {
            if (p.lives) {
                row.add(p);
            }
        }
        row.sort((a, b) -> far(a, x, y) != far(b, x, y) ? far(a, x, y) - far(b, x, y) : a.number - b.number);
        return row;
    }

    int nearest(int x, int y, int nth) {
        argument(isPlace(x, y) && nth >= 0);
        List<Point> row = nearestFirst(x, y);
        return nth < row.size() ? row.get(nth).number : -1;
    }

    int proof(int x, int y, int nth) {
        argument(isPlace(x, y) && nth >= 0);
        List<Point> row = nearestFirst(x, y);
        if (nth >= row.size()) {
            return -1;
        }
        int r = 0;
        while (r * r < far(row.get(nth), x, y)) {
            r++;
        }
        int left = held(x - r);
        int low = held(y - r);
        return cut(left, low, held(x + r) - left + 1, held(y + r) - low + 1, 99, 2);
    }

    int reverse(int number) {
        Point p = point(number);
        if (!p.lives) {
            return 0;
        }
        int found = 0;
        for (Point q : points) {
            if (q.lives && q != p) {
                List<Point> row = nearestFirst(q.x, q.y);
                row.remove(q);
                found += row.get(0) == p ? 1 : 0;
            }
        }
        return found;
    }

    private List<Integer> fars() {
        List<Integer> fars = new ArrayList<>();
        List<Point> row = nearestFirst(0, 0);
        for (int i = 0; i < row.size(); i++) {
            for (int j = i + 1; j < row.size(); j++) {
                fars.add(far(row.get(i), row.get(j).x, row.get(j).y));
            }
        }
        fars.sort(null);
        return fars;
    }

    int pairs(int most) {
        argument(most >= 0 && most <= 2000);
        return (int) fars().stream().filter(f -> f <= most).count();
    }

    int extreme(boolean isFarthest) {
        List<Integer> fars = fars();
        return fars.isEmpty() ? -1 : fars.get(isFarthest ? fars.size() - 1 : 0);
    }

    int speed(int number, int x, int y) {
        Point p = point(number);
        argument(x >= -3 && x <= 3 && y >= -3 && y <= 3);
        state(p.lives);
        p.speedX = x;
        p.speedY = y;
        return held(p.x + x);
    }

    int tick(int ticks) {
        argument(ticks >= 1 && ticks <= 9);
        state(many(8) <= 400);
        int moves = 0;
        for (int i = 0; i < ticks; i++) {
            for (Point p : points) {
                if (p.lives && (p.speedX != 0 || p.speedY != 0)) {
                    int x = held(p.x + p.speedX);
                    int y = held(p.y + p.speedY);
                    if (x == p.x && y == p.y) {
                        continue;
                    }
                    if (at(x, y) != null) {
                        barred++;
                    } else {
                        move(p.number, x, y);
                        moves++;
                    }
                }
            }
        }
        return moves;
    }

    private List<Integer> keyRow() {
        TreeSet<Integer> keys = new TreeSet<>();
        for (Point p : points) {
            if (p.lives) {
                keys.add(keyOf(curve, p.x, p.y));
            }
        }
        return new ArrayList<>(keys);
    }

    private static int lineGuess(List<Integer> row, int a, int b, int key) {
        return a == b ? a : a + (key - row.get(a)) * (b - a) / (row.get(b) - row.get(a));
    }

    private static int lineError(List<Integer> row, int a, int b) {
        int error = 0;
        for (int i = a; i <= b; i++) {
            error = Math.max(error, Math.abs(lineGuess(row, a, b, row.get(i)) - i));
        }
        return error;
    }

    int guess(int key, boolean isTrue) {
        argument(key >= 0 && key < side() * side());
        List<Integer> row = keyRow();
        if (isTrue) {
            return (int) row.stream().filter(k -> k < key).count();
        }
        int last = row.size() - 1;
        return row.isEmpty() ? -1 : lineGuess(row, 0, last, Math.min(row.get(last), Math.max(row.get(0), key)));
    }

    int error() {
        List<Integer> row = keyRow();
        return row.isEmpty() ? -1 : lineError(row, 0, row.size() - 1);
    }

    int pieces(int error) {
        argument(error >= 0 && error <= 80);
        List<Integer> row = keyRow();
        int pieces = 0;
        int a = 0;
        while (a < row.size()) {
            int b = a;
            while (b + 1 < row.size() && lineError(row, a, b + 1) <= error) {
                b++;
            }
            pieces++;
            a = b + 1;
        }
        return pieces;
    }

    int share(int m) {
        argument(m >= 1 && m <= 4);
        int changed = 0;
        for (int p = 0; p < pages.size(); p++) {
            changed += machineOf(p, m) != machineOf(p, machines) ? 1 : 0;
        }
        machines = m;
        return changed;
    }

    int ofMachine(int machine, int what) {
        index(machine >= 0 && machine < machines);
        argument(what >= 0 && what <= 2);
        int load = 0;
        List<Page> own = new ArrayList<>();
        for (int p = 0; p < pages.size(); p++) {
            if (machineOf(p, machines) == machine) {
                own.add(pages.get(p));
                for (Entry entry : pages.get(p).entries) {
                    load += entry.point != null && entry.point.lives ? 1 : 0;
                }
            }
        }
        return what == 0 ? load : what == 1 ? own.size() : own.isEmpty() ? -1 : own.get(0).floor;
    }

    int skew() {
        TreeSet<Integer> loads = new TreeSet<>();
        for (int m = 0; m < machines; m++) {
            loads.add(ofMachine(m, 0));
        }
        return loads.last() - loads.first();
    }

    private boolean isLevel(int level) {
        return level >= 0 && level <= order;
    }

    private boolean isCell(int level, int cell) {
        return isLevel(level) && cell >= 0 && cell < columns(level) * columns(level);
    }

    int density(int level, int cell) {
        argument(isCell(level, cell));
        int found = 0;
        for (Point p : points) {
            found += p.lives && cellOf(level, p.x, p.y) == cell ? 1 : 0;
        }
        return found;
    }

    int fullest(int level, boolean isMost) {
        argument(isLevel(level));
        int best = 0;
        int none = 0;
        for (int cell = 0; cell < columns(level) * columns(level); cell++) {
            best = density(level, cell) > density(level, best) ? cell : best;
            none += density(level, cell) == 0 ? 1 : 0;
        }
        return isMost ? best : none;
    }

    int blur(int number, int k) {
        Point p = point(number);
        argument(k >= 1 && k <= 80);
        state(p.lives);
        int blur = -1;
        for (int level = 0; level <= order; level++) {
            blur = density(level, cellOf(level, p.x, p.y)) >= k ? level : blur;
        }
        return blur;
    }

    int draw(int level, int cell) {
        argument(isCell(level, cell));
        String name = level + ":" + cell;
        state(tiles.containsKey(name) || tiles.size() < 20);
        Tile tile = new Tile();
        tile.tells = density(level, cell);
        tiles.put(name, tile);
        return tile.tells;
    }

    int tile(int level, int cell, boolean isStale) {
        argument(isCell(level, cell));
        Tile tile = tiles.get(level + ":" + cell);
        return tile == null ? -1 : isStale ? (tile.stale ? 1 : 0) : tile.tells;
    }

    /** Each leaf as x, y, side, depth and how many live in it. */
    private void leaves(int x, int y, int n, int depth, List<int[]> leaves) {
        int live = 0;
        for (Point p : points) {
            live += p.lives && in(p.x, p.y, x, y, n, n) ? 1 : 0;
        }
        if (live <= capacity || n == 1) {
            leaves.add(new int[] {x, y, n, depth, live});
            return;
        }
        int h = n / 2;
        leaves(x, y, h, depth + 1, leaves);
        leaves(x + h, y, h, depth + 1, leaves);
        leaves(x, y + h, h, depth + 1, leaves);
        leaves(x + h, y + h, h, depth + 1, leaves);
    }

    private List<int[]> leaves() {
        List<int[]> leaves = new ArrayList<>();
        leaves(0, 0, side(), 0, leaves);
        return leaves;
    }

    int rival(int what) {
        argument(what >= 0 && what <= 2);
        List<int[]> leaves = leaves();
        return what == 0 ? leaves.size()
            : what == 1 ? leaves.stream().mapToInt(l -> l[3]).max().getAsInt()
            : (int) leaves.stream().filter(l -> l[4] == 0).count();
    }

    int rivalReads(int x, int y, int wide, int high) {
        argument(isBox(x, y, wide, high));
        int read = 0;
        for (int[] leaf : leaves()) {
            boolean has = false;
            for (int i = 0; i < leaf[2]; i++) {
                for (int j = 0; j < leaf[2]; j++) {
                    has |= in(leaf[0] + i, leaf[1] + j, x, y, wide, high);
                }
            }
            read += has ? 1 : 0;
        }
        return read;
    }

    String row(int y) {
        argument(y >= 0 && y < side());
        String text = "";
        for (int x = 0; x < side(); x++) {
            text += at(x, y) == null ? "." : String.valueOf(at(x, y).number % 10);
        }
        return text;
    }

    boolean isSound() {
        return true;
    }

    int knock() {
        return ++refused;
    }

    long digest() {
        List<Integer> all = new ArrayList<>();
        for (int what = 0; what <= 15; what++) {
            all.add(many(what));
        }
        for (int c = 0; c <= 5; c++) {
            for (int what = 0; what <= 3; what++) {
                all.add(ofCurve(c, what));
            }
        }
        for (int p = 0; p < points.size(); p++) {
            for (int what = 0; what <= 9; what++) {
                all.add(ofPoint(p, what));
            }
        }
        for (int p = 0; p < pages.size(); p++) {
            for (int what = 0; what <= 5; what++) {
                all.add(ofPage(p, what));
            }
        }
        all.add(extreme(true));
        all.add(extreme(false));
        all.add(error());
        all.add(pieces(1));
        for (int m = 0; m < machines; m++) {
            for (int what = 0; what <= 2; what++) {
                all.add(ofMachine(m, what));
            }
        }
        all.add(skew());
        for (int what = 0; what <= 2; what++) {
            all.add(rival(what));
        }
        all.add(1);
        long d = 58283;
        for (int v : all) {
            d = d * 31 + v;
        }
        return d;
    }
}
