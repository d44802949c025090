import java.util.Random;

/** Runs of calls by fixed seeds, each answer compared with that of ReferenceHouse. */
public final class RandomRunsTest {
    private static final int RUNS = 900;
    /** Of the 512 calls for which an object is used, a few are left for the last questions. */
    private static final int CALLS = 505;
    private static int wrong = 0;
    private static int asked = 0;
    private static long threw = 0;

    private final Random random;
    private final CurvekeyHouse house = new CurvekeyHouse();
    private final ReferenceHouse reference = new ReferenceHouse();
    private int calls = 0;
    private int side = 8;
    private int order = 3;
    private final StringBuilder told = new StringBuilder();

    private RandomRunsTest(long seed) {
        random = new Random(seed);
    }

    public static void main(String[] args) {
        for (int run = 0; run < RUNS && wrong == 0; run++) {
            new RandomRunsTest(run).play(run);
        }
        System.out.println(asked + " asked, " + threw + " of them threw, " + wrong + " wrong");
        if (wrong != 0 || asked == 0) {
            System.exit(1);
        }
    }

    private interface Ask {
        Object ask();
    }

    private Object answer(Ask ask) {
        try {
            return ask.ask();
        } catch (RuntimeException thrown) {
            return thrown.getClass().getName();
        }
    }

    private void same(String call, Ask ours, Ask theirs) {
        told.append(call).append('\n');
        asked++;
        calls++;
        Object want = answer(theirs);
        Object got = answer(ours);
        if (want instanceof String && ((String) want).startsWith("java.lang")) {
            threw++;
        }
        if (!want.equals(got)) {
            wrong++;
            if (wrong < 5) {
                System.out.println(told + "answered " + got + ", due is " + want);
            }
        }
    }

    private void play(int run) {
        int flavour = run % 6;
        for (int step = 0; calls < CALLS && wrong == 0; step++) {
            if (step == 0 && flavour != 0 || random.nextInt(120) == 0 && flavour < 3) {
                foundOne(flavour);
            } else if (random.nextInt(10) < 5) {
                change(flavour);
            } else {
                ask(random.nextInt(25));
            }
            if (step % 25 == 24) {
                same("digest()", house::digest, reference::digest);
            }
        }
        same("digest()", house::digest, reference::digest);
        same("isSound()", house::isSound, reference::isSound);
    }

    /** Mostly a to b; now and then a little beyond, or far beyond. */
    private int number(int a, int b) {
        int luck = random.nextInt(60);
        if (luck == 0) {
            return a - 1;
        }
        if (luck == 1) {
            return b + 1;
        }
        if (luck == 2) {
            int[] wild = {Integer.MIN_VALUE, Integer.MAX_VALUE, Integer.MIN_VALUE + 1, Integer.MAX_VALUE - 1,
                -1000000, 1000000, 1 << 30, -(1 << 30), 1 << 16, 65, 33, -2};
            return wild[random.nextInt(wild.length)];
        }
        return b < a ? a : a + random.nextInt(b - a + 1);
    }

    private int coordinate() {
        return number(0, side - 1);
    }

    private void foundOne(int flavour) {
        int o = flavour == 4 ? 5 : flavour == 5 ? 1 + random.nextInt(2) : number(1, 5);
        int c = number(0, 5);
        int cap = flavour == 4 ? 2 : number(2, 8);
        same("found(" + o + ", " + c + ", " + cap + ")", () -> house.found(o, c, cap), () -> reference.found(o, c, cap));
        order = reference.many(0);
        side = 1 << order;
    }

    private void change(int flavour) {
        int p = number(0, reference.many(3) - 1);
        int x = coordinate();
        int y = coordinate();
        switch (random.nextInt(flavour == 3 ? 16 : 13)) {
            case 0: case 1: case 2:
                same("put(" + x + ", " + y + ")", () -> house.put(x, y), () -> reference.put(x, y));
                break;
            case 3: case 13: case 14: case 15:
                same("move(" + p + ", " + x + ", " + y + ")", () -> house.move(p, x, y), () -> reference.move(p, x, y));
                break;
            case 4:
                same("remove(" + p + ")", () -> house.remove(p), () -> reference.remove(p));
                break;
            case 5:
                if (random.nextInt(4) == 0) {
                    same("sweep()", house::sweep, reference::sweep);
                }
                break;
            case 6: {
                int m = flavour == 4 ? 40 : number(1, 12);
                int s = number(0, 99);
                if (random.nextInt(3) == 0) {
                    same("bulk(" + m + ", " + s + ")", () -> house.bulk(m, s), () -> reference.bulk(m, s));
                }
                break;
            }
            case 7: {
                int sx = number(-3, 3);
                int sy = number(-3, 3);
                same("speed(" + p + ", " + sx + ", " + sy + ")",
                    () -> house.speed(p, sx, sy), () -> reference.speed(p, sx, sy));
                break;
            }
            case 8: {
                int t = number(1, random.nextInt(4) == 0 ? 9 : 2);
                same("tick(" + t + ")", () -> house.tick(t), () -> reference.tick(t));
                break;
            }
            case 9: {
                int m = number(1, 4);
                same("share(" + m + ")", () -> house.share(m), () -> reference.share(m));
                break;
            }
            case 10: {
                int l = number(0, order);
                int c = number(0, (1 << (2 * Math.max(0, Math.min(l, 5)))) - 1);
                same("draw(" + l + ", " + c + ")", () -> house.draw(l, c), () -> reference.draw(l, c));
                break;
            }
            case 11:
                if (random.nextInt(4) == 0) {
                    designOne();
                }
                break;
            default:
                same("knock()", house::knock, reference::knock);
        }
    }

    private void designOne() {
        int[] q = {0, 1, 2, 3};
        for (int i = 3; i > 0; i--) {
            int j = random.nextInt(i + 1);
            int swap = q[i];
            q[i] = q[j];
            q[j] = swap;
        }
        if (random.nextInt(8) == 0) {
            q[random.nextInt(4)] = random.nextInt(4);
        }
        int a = number(8 * q[0], 8 * q[0] + 7);
        int b = number(8 * q[1], 8 * q[1] + 7);
        int c = number(8 * q[2], 8 * q[2] + 7);
        int d = number(8 * q[3], 8 * q[3] + 7);
        same("design(" + a + ", " + b + ", " + c + ", " + d + ")",
            () -> house.design(a, b, c, d), () -> reference.design(a, b, c, d));
    }

    private void ask(int which) {
        int c = number(0, 5);
        int x = coordinate();
        int y = coordinate();
        int p = number(0, reference.many(3) - 1);
        int k = number(0, side * side - 1);
        boolean b = random.nextBoolean();
        String bt = ", " + b + ")";
        switch (which) {
            case 0:
                same("key(" + c + ", " + x + ", " + y + ")", () -> house.key(c, x, y), () -> reference.key(c, x, y));
                break;
            case 1:
                same("place(" + c + ", " + k + bt, () -> house.place(c, k, b), () -> reference.place(c, k, b));
                break;
            case 2: {
                int w = number(0, 3);
                same("ofCurve(" + c + ", " + w + ")", () -> house.ofCurve(c, w), () -> reference.ofCurve(c, w));
                break;
            }
            case 3: {
                int w = number(1, side > 8 && random.nextInt(5) > 0 ? 3 : side);
                int h = number(1, side > 8 && random.nextInt(5) > 0 ? 3 : side);
                if (random.nextInt(side > 8 ? 4 : 1) == 0) {
                    same("allRuns(" + c + ", " + w + ", " + h + ")",
                        () -> house.allRuns(c, w, h), () -> reference.allRuns(c, w, h));
                    if (side <= 8 || b) {
                        same("best(" + w + ", " + h + bt, () -> house.best(w, h, b), () -> reference.best(w, h, b));
                    }
                }
                break;
            }
            case 4: {
                int w = number(0, 9);
                same("ofPoint(" + p + ", " + w + ")", () -> house.ofPoint(p, w), () -> reference.ofPoint(p, w));
                break;
            }
            case 5: {
                int g = number(0, reference.many(5) - 1);
                int w = number(0, 5);
                same("ofPage(" + g + ", " + w + ")", () -> house.ofPage(g, w), () -> reference.ofPage(g, w));
                break;
            }
            case 6: {
                int w = number(0, 15);
                same("many(" + w + ")", () -> house.many(w), () -> reference.many(w));
                break;
            }
            case 7: case 8: case 9: case 10: case 11: case 12:
                askBox(which, c, x, y);
                break;
            case 13: {
                int n = number(0, random.nextInt(4) == 0 ? 80 : 5);
                same("nearest(" + x + ", " + y + ", " + n + ")",
                    () -> house.nearest(x, y, n), () -> reference.nearest(x, y, n));
                same("proof(" + x + ", " + y + ", " + n + ")",
                    () -> house.proof(x, y, n), () -> reference.proof(x, y, n));
                break;
            }
            case 14:
                same("reverse(" + p + ")", () -> house.reverse(p), () -> reference.reverse(p));
                break;
            case 15: {
                int f = number(0, random.nextInt(3) == 0 ? 2000 : 40);
                same("pairs(" + f + ")", () -> house.pairs(f), () -> reference.pairs(f));
                break;
            }
            case 16:
                same("extreme(" + b + ")", () -> house.extreme(b), () -> reference.extreme(b));
                break;
            case 17:
                same("guess(" + k + bt, () -> house.guess(k, b), () -> reference.guess(k, b));
                break;
            case 18: {
                int e = number(0, random.nextInt(3) == 0 ? 80 : 4);
                same("pieces(" + e + ")", () -> house.pieces(e), () -> reference.pieces(e));
                same("error()", house::error, reference::error);
                break;
            }
            case 19: {
                int m = number(0, reference.many(11) - 1);
                int w = number(0, 2);
                same("ofMachine(" + m + ", " + w + ")", () -> house.ofMachine(m, w), () -> reference.ofMachine(m, w));
                same("skew()", house::skew, reference::skew);
                break;
            }
            default:
                askCell(which, p, b);
        }
    }

    private void askBox(int which, int c, int x, int y) {
        int w = number(1, Math.max(1, Math.min(side, side - x)));
        int h = number(1, Math.max(1, Math.min(side, side - y)));
        int m = number(1, random.nextInt(3) == 0 ? 99 : 8);
        String box = x + ", " + y + ", " + w + ", " + h;
        switch (which) {
            case 7:
                same("runs(" + c + ", " + box + ")", () -> house.runs(c, x, y, w, h), () -> reference.runs(c, x, y, w, h));
                break;
            case 8: {
                int f = number(0, 3);
                same("cut(" + box + ", " + m + ", " + f + ")",
                    () -> house.cut(x, y, w, h, m, f), () -> reference.cut(x, y, w, h, m, f));
                break;
            }
            case 9:
                same("search(" + box + ", " + m + ")",
                    () -> house.search(x, y, w, h, m), () -> reference.search(x, y, w, h, m));
                break;
            case 10: {
                int v = number(0, reference.many(7));
                same("asOf(" + box + ", " + v + ")",
                    () -> house.asOf(x, y, w, h, v), () -> reference.asOf(x, y, w, h, v));
                break;
            }
            case 11: {
                int t = number(0, random.nextInt(3) == 0 ? 40 : 3);
                same("soon(" + box + ", " + t + ")",
                    () -> house.soon(x, y, w, h, t), () -> reference.soon(x, y, w, h, t));
                break;
            }
            default:
                same("rivalReads(" + box + ")",
                    () -> house.rivalReads(x, y, w, h), () -> reference.rivalReads(x, y, w, h));
        }
    }

    private void askCell(int which, int p, boolean b) {
        int l = number(0, order);
        int cell = number(0, (1 << (2 * Math.max(0, Math.min(l, 5)))) - 1);
        String bt = ", " + b + ")";
        switch (which) {
            case 20:
                same("density(" + l + ", " + cell + ")", () -> house.density(l, cell), () -> reference.density(l, cell));
                break;
            case 21:
                same("fullest(" + l + bt, () -> house.fullest(l, b), () -> reference.fullest(l, b));
                break;
            case 22: {
                int k = number(1, random.nextInt(4) == 0 ? 80 : 5);
                same("blur(" + p + ", " + k + ")", () -> house.blur(p, k), () -> reference.blur(p, k));
                break;
            }
            case 23: {
                same("tile(" + l + ", " + cell + bt, () -> house.tile(l, cell, b), () -> reference.tile(l, cell, b));
                int y = number(0, side - 1);
                same("row(" + y + ")", () -> house.row(y), () -> reference.row(y));
                break;
            }
            default: {
                int w = number(0, 2);
                same("rival(" + w + ")", () -> house.rival(w), () -> reference.rival(w));
            }
        }
    }
}
