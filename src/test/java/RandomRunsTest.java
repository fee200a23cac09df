import java.util.Random;

/** Runs of calls drawn by numbers, each answer held against the plain model's. */
public final class RandomRunsTest {
    private static final int[] ODD = {Integer.MIN_VALUE, Integer.MAX_VALUE, -4097, 4097, 4096, 13, -13, 41};

    private final Random random;
    private final TruthWalk walk = new TruthWalk();
    private final PlainModel model = new PlainModel();
    private final int letters;
    private final int oddness;

    private RandomRunsTest(long seed, int letters, int oddness) {
        this.random = new Random(seed);
        this.letters = letters;
        this.oddness = oddness;
    }

    private boolean odd() {
        return random.nextInt(100) < oddness;
    }

    private int within(int low, int high) {
        return odd() ? ODD[random.nextInt(ODD.length)] : low + random.nextInt(high - low + 1);
    }

    private int book() {
        return odd() ? random.nextInt(7) - 3 : random.nextInt(3) / 2;
    }

    private int n(int b) {
        return b == 0 || b == 1 ? model.books[b].n : 8;
    }

    private int letter(int b) {
        return odd() ? within(-1, n(b) + 1) : 1 + random.nextInt(n(b));
    }

    private int sign(int b) {
        return letter(b) * (random.nextBoolean() ? 1 : -1);
    }

    private int signOrNone(int b) {
        return random.nextInt(4) == 0 ? 0 : sign(b);
    }

    private int aRow(int b) {
        return odd() ? within(-2, (1 << n(b)) + 1) : random.nextInt(1 << n(b));
    }

    private int aNode(int b) {
        int size = b == 0 || b == 1 ? model.count(b, 2) : 0;
        return odd() || size == 0 ? within(-1, size) : random.nextInt(size);
    }

    private int aHighNode(int b) {
        int size = b == 0 || b == 1 ? model.count(b, 2) : 0;
        return odd() || size < 3 ? within(-1, size) : size - 1 - random.nextInt(Math.min(size - 2, 6));
    }

    private void due(String name, long got, long want, Object... with) {
        StringBuilder call = new StringBuilder(name).append('(');
        for (int i = 0; i < with.length; i++) {
            call.append(i == 0 ? "" : ", ").append(with[i]);
        }
        Due.is(call.append(')').toString(), got, want);
    }

    private void change() {
        int b = book();
        switch (random.nextInt(13)) {
            case 0: {
                int n = random.nextInt(4) == 0 ? within(0, 13) : within(Math.max(1, letters - 1), letters);
                if (random.nextInt(4) == 0) {
                    due("letters", walk.letters(b, n), model.letters(b, n), b, n);
                }
                break;
            }
            case 1: case 2: case 3: case 4: {
                int s = signOrNone(b);
                int t = signOrNone(b);
                int u = signOrNone(b);
                int v = signOrNone(b);
                due("clause", walk.clause(b, s, t, u, v), model.clause(b, s, t, u, v), b, s, t, u, v);
                break;
            }
            case 5: case 6: {
                int s = sign(b);
                due("more", walk.more(b, s), model.more(b, s), b, s);
                break;
            }
            case 7:
                due("drop", walk.drop(b), model.drop(b), b);
                break;
            case 8: {
                int l = letter(b);
                boolean is = random.nextBoolean();
                due("ask", walk.ask(b, l, is), model.ask(b, l, is), b, l, is);
                break;
            }
            case 9: {
                int s = sign(b);
                due("fix", walk.fix(b, s), model.fix(b, s), b, s);
                break;
            }
            case 10: {
                int l = letter(b);
                due("loose", walk.loose(b, l), model.loose(b, l), b, l);
                break;
            }
            case 11: {
                int s = sign(b);
                int w = odd() ? within(-1, 8) : random.nextInt(8);
                due("weight", walk.weight(b, s, w), model.weight(b, s, w), b, s, w);
                break;
            }
            default:
                due("join", walk.join(), model.join());
                break;
        }
    }

    private void theRow() {
        int b = book();
        switch (random.nextInt(6)) {
            case 0: case 1: {
                int c = within(-1, 5);
                due("lay", walk.lay(b, c), model.lay(b, c), b, c);
                break;
            }
            case 2:
                if (random.nextInt(4) == 0) {
                    due("tear", walk.tear(), model.tear());
                }
                break;
            case 3: {
                int i = within(-1, 5);
                due("row", walk.row(i), model.row(i), i);
                break;
            }
            case 4: {
                int i = within(-1, 3);
                int j = within(-1, 3);
                int n = within(-1, 4);
                due("copy", walk.copy(i, j, n), model.copy(i, j, n), i, j, n);
                break;
            }
            default:
                due("give", walk.give(b), model.give(b), b);
                break;
        }
    }

    private void graph() {
        int b = book();
        switch (random.nextInt(9)) {
            case 0: case 1:
                due("compile", walk.compile(b), model.compile(b), b);
                break;
            case 2:
                due("root", walk.root(b), model.root(b), b);
                break;
            case 3: {
                int x = aNode(b);
                int what = within(-1, 4);
                due("node", walk.node(b, x, what), model.node(b, x, what), b, x, what);
                break;
            }
            case 4: {
                int x = aNode(b);
                int j = within(-1, 3);
                due("part", walk.part(b, x, j), model.part(b, x, j), b, x, j);
                break;
            }
            case 5: case 6: {
                int x = random.nextBoolean() ? aNode(b) : aHighNode(b);
                int j = within(-1, 2);
                int other = within(-1, Math.max(0, Math.min(x, 2000)));
                due("bend", walk.bend(b, x, j, other), model.bend(b, x, j, other), b, x, j, other);
                break;
            }
            case 7: {
                int what = within(-1, 6);
                due("count", walk.count(b, what), model.count(b, what), b, what);
                break;
            }
            default:
                due("judge", walk.judge(b), model.judge(b), b);
                due("guilty", walk.guilty(), model.guilty);
                break;
        }
    }

    private void tell() {
        int b = book();
        int s = sign(b);
        int r = aRow(b);
        boolean flag = random.nextBoolean();
        switch (random.nextInt(12)) {
            case 0:
                due("rows", walk.rows(b), model.rows(b), b);
                break;
            case 1:
                due("says", walk.says(b, r), model.says(b, r), b, r);
                break;
            case 2:
                due("sum", walk.sum(b), model.sum(b), b);
                break;
            case 3:
                due("chance", walk.chance(b, s, flag), model.chance(b, s, flag), b, s, flag);
                break;
            case 4:
                due("sure", walk.sure(b, s), model.sure(b, s), b, s);
                break;
            case 5: {
                int k = within(-1, 1 << random.nextInt(n(b) + 1));
                due("kth", walk.kth(b, k), model.kth(b, k), b, k);
                break;
            }
            case 6:
                due("rank", walk.rank(b, r), model.rank(b, r), b, r);
                break;
            case 7:
                due("next", walk.next(b, r), model.next(b, r), b, r);
                break;
            case 8:
                due("most", walk.most(b, flag), model.most(b, flag), b, flag);
                break;
            case 9:
                due("weigh", walk.weigh(b, r), model.weigh(b, r), b, r);
                break;
            case 10:
                due("asked", walk.asked(b), model.asked(b), b);
                break;
            default:
                due("less", walk.less(flag), model.less(flag), flag);
                break;
        }
    }

    private void wholeGraph(int b) {
        for (int x = 0; x < model.count(b, 2); x++) {
            for (int what = 0; what < 4; what++) {
                due("node", walk.node(b, x, what), model.node(b, x, what), b, x, what);
            }
            for (int j = 0; j < model.node(b, x, 2); j++) {
                due("part", walk.part(b, x, j), model.part(b, x, j), b, x, j);
            }
        }
        due("root", walk.root(b), model.root(b), b);
    }

    private void everyStatus() {
        for (int by = -10; by <= -1; by++) {
            due("status", walk.status(by), model.status(by), by);
        }
    }

    private void run(int calls) {
        due("letters", walk.letters(0, letters), model.letters(0, letters), 0, letters);
        due("letters", walk.letters(1, letters), model.letters(1, letters), 1, letters);
        for (int i = 0; i < calls && Due.allRight(); i++) {
            int kind = random.nextInt(10);
            if (kind < 4) {
                change();
            } else if (kind < 5) {
                theRow();
            } else if (kind < 7) {
                graph();
            } else {
                tell();
            }
        }
        everyStatus();
        wholeGraph(0);
        wholeGraph(1);
        everyStatus();
    }

    // Fills a book to its end, so that graphs are deep and pieces are met again.
    private void fullBook(int width) {
        due("letters", walk.letters(0, letters), model.letters(0, letters), 0, letters);
        for (int i = 0; i < 60 && model.count(0, 1) < 40; i++) {
            int[] signs = {sign(0), sign(0), width > 2 ? sign(0) : 0, width > 3 ? sign(0) : 0};
            due("clause", walk.clause(0, signs[0], signs[1], signs[2], signs[3]), model.clause(0, signs));
            if (width > 4) {
                int s = sign(0);
                due("more", walk.more(0, s), model.more(0, s), 0, s);
            }
        }
        for (int i = random.nextInt(4); i > 0; i--) {
            int l = letter(0);
            due("ask", walk.ask(0, l, true), model.ask(0, l, true), 0, l);
        }
        due("compile", walk.compile(0), model.compile(0), 0);
        due("count", walk.count(0, 3), model.count(0, 3), 0, 3);
        due("judge", walk.judge(0), model.judge(0), 0);
        due("rows", walk.rows(0), model.rows(0), 0);
        wholeGraph(0);
    }

    public static void main(String[] args) {
        int rounds = args.length > 0 ? Integer.parseInt(args[0]) : 1;
        for (int seed = 0; seed < 600 * rounds && Due.allRight(); seed++) {
            int letters = 1 + seed % 9;
            Due.about("run " + seed + " of " + letters + " letters");
            new RandomRunsTest(seed, letters, seed % 4 == 0 ? 20 : 3).run(400);
        }
        for (int seed = 0; seed < 30 * rounds && Due.allRight(); seed++) {
            int letters = 10 + seed % 3;
            Due.about("long run " + seed + " of " + letters + " letters");
            new RandomRunsTest(1000 + seed, letters, 3).run(300);
        }
        for (int seed = 0; seed < 60 * rounds && Due.allRight(); seed++) {
            int letters = 4 + seed % 9;
            Due.about("full book " + seed + " of " + letters + " letters");
            new RandomRunsTest(2000 + seed, letters, 0).fullBook(2 + seed % 4);
        }
        Due.end("RandomRunsTest");
    }
}
