import java.util.function.Supplier;

/**
 * Each refusal on the line of each call: what is due, that of several the first is given (what
 * stands behind it on the line is wrong in the same call), that nothing but status() has changed,
 * and that status() tells of it.
 */
public final class RefusalsTest {
    private static final int MISSING = TruthWalk.MISSING;
    private static final int BEYOND = TruthWalk.BEYOND;
    private static final int BELOW = TruthWalk.BELOW;
    private static final int KIND = TruthWalk.KIND;
    private static final int COPY = TruthWalk.COPY;
    private static final int NO = TruthWalk.NO;
    private static final int FULL = TruthWalk.FULL;
    private static final int SPENT = TruthWalk.SPENT;
    private static final int LEAST = Edge.LEAST;
    private static final int GREATEST = Edge.GREATEST;

    // Of none, where there are four letters.
    private static final int[] BOOKS = {-1, 2, LEAST, GREATEST};
    private static final int[] LETTERS = {0, -1, -4, 5, 13, LEAST, GREATEST};
    private static final int[] SIGNS = {0, 5, -5, 12, -12, 13, -13, LEAST, LEAST + 1, GREATEST};
    private static final int[] ROWS = {-1, 16, 17, 4096, LEAST, GREATEST};
    private static final int[] NODES = {-1, 9, 10, 1499, 1500, LEAST, GREATEST};
    private static final int[] BELOW_NOTHING = {-1, -2, LEAST, LEAST + 1};

    private RefusalsTest() {
    }

    /**
     * Of book 0 a graph that was bent and found guilty; of book 1 none, but a clause. Both have
     * letters asked, signs fixed and weights; the row is there, and a number of it was copied.
     */
    private static TruthWalk settled() {
        TruthWalk x = Walks.small();
        x.ask(0, 1, true);
        x.compile(0);
        x.fix(0, 3);
        x.weight(0, 2, 3);
        x.weight(0, -4, 5);
        x.bend(0, 5, 0, 0);
        x.judge(0);
        x.letters(1, 4);
        x.clause(1, 1, -2, 4, 0);
        x.ask(1, 2, true);
        x.fix(1, -3);
        x.weight(1, 1, 0);
        x.lay(1, 0);
        x.copy(0, 1, 1);
        return x;
    }

    private static TruthWalk bothCompiled() {
        TruthWalk x = settled();
        x.compile(1);
        return x;
    }

    /**
     * 40 clauses of book 0, the last of five signs, with its graph, and one of book 1, of as many
     * letters; the row has five numbers.
     */
    private static TruthWalk full() {
        TruthWalk x = new TruthWalk();
        for (int i = 0; i < 39; i++) {
            x.clause(0, 1 + i % 7, -8, 0, 0);
        }
        x.clause(0, 1, 2, 3, 4);
        x.more(0, 5);
        x.compile(0);
        x.clause(1, 7, 8, 0, 0);
        x.lay(0, 39);
        return x;
    }

    private static TruthWalk tooLarge() {
        TruthWalk x = Walks.of(12, Walks.ONE_TOO_MANY);
        Walks.askAll(x, 0, Walks.ASKED_OF_LARGE);
        x.fix(0, -7);
        x.weight(0, 12, 7);
        x.compile(1);
        x.judge(1);
        x.lay(0, 3);
        return x;
    }

    private static TruthWalk never() {
        TruthWalk x = Walks.of(4, new int[][] {{1, 2}, {1, -2}, {-1, 2}, {-1, -2}});
        x.compile(0);
        return x;
    }

    /** The rows are there, but what is fixed holds in none of them. */
    private static TruthWalk fixedAway() {
        TruthWalk x = Walks.small();
        x.fix(0, -1);
        x.fix(0, -2);
        return x;
    }

    /** The rows are there, but each of them weighs 0. */
    private static TruthWalk weightless() {
        TruthWalk x = Walks.small();
        x.weight(0, 3, 0);
        x.weight(0, -3, 0);
        return x;
    }

    private static void refused(String name, Supplier<TruthWalk> made, Edge.Call call, int by) {
        Edge.changesNothing(name, made, call, by);
    }

    private static void refusedWithZero(String name, Supplier<TruthWalk> made, Edge.Call call, int by) {
        Edge.changesNothingWithZero(name, made, call, by);
    }

    private static void each(String name, int[] numbers, Edge.Tried call, int by) {
        for (int number : numbers) {
            refused(name + " with " + number, RefusalsTest::settled, x -> call.on(x, number), by);
        }
    }

    private static void eachWithZero(String name, int[] numbers, Edge.Tried call, int by) {
        for (int number : numbers) {
            refusedWithZero(name + " with " + number, RefusalsTest::settled, x -> call.on(x, number), by);
        }
    }

    private static void letters() {
        each("letters(book, 0)", BOOKS, (x, book) -> x.letters(book, 0), BEYOND);
        each("letters(book, 4)", BOOKS, (x, book) -> x.letters(book, 4), BEYOND);
        each("letters(0, n)", new int[] {0, -1, 13, LEAST, GREATEST}, (x, n) -> x.letters(0, n), NO);
        each("letters(1, n)", new int[] {0, -1, 13, LEAST, GREATEST}, (x, n) -> x.letters(1, n), NO);
    }

    private static void clause() {
        int[] signs = {5, -5, 12, -12, LEAST, LEAST + 1, GREATEST};
        each("clause(book, a good one)", BOOKS, (x, book) -> x.clause(book, 1, 2, 0, 0), BEYOND);
        each("clause(book, no sign)", BOOKS, (x, book) -> x.clause(book, 0, 0, 0, 0), BEYOND);
        each("clause(0, a, ..)", signs, (x, sign) -> x.clause(0, sign, 0, 0, 0), BEYOND);
        each("clause(0, .., b, ..)", signs, (x, sign) -> x.clause(0, 1, sign, 2, 3), BEYOND);
        each("clause(0, .., c, ..)", signs, (x, sign) -> x.clause(0, 0, 0, sign, 0), BEYOND);
        each("clause(0, .., d)", signs, (x, sign) -> x.clause(0, 0, 2, 3, sign), BEYOND);
        each("clause(0, a denial, then d)", signs, (x, sign) -> x.clause(0, 1, -1, 0, sign), BEYOND);
        refused("clause(0, 5, -5)", RefusalsTest::settled, x -> x.clause(0, 5, -5, 0, 0), BEYOND);
        refused("clause(0, no sign)", RefusalsTest::settled, x -> x.clause(0, 0, 0, 0, 0), NO);
        for (int at = 0; at < 4; at++) {
            for (int other = 0; other < 4; other++) {
                if (at != other) {
                    int[] s = {0, 0, 0, 0};
                    s[at] = 4;
                    s[other] = -4;
                    refused("clause(0, 4 at " + at + ", -4 at " + other + ")", RefusalsTest::settled,
                        x -> x.clause(0, s[0], s[1], s[2], s[3]), NO);
                }
            }
        }
        refused("clause(0, 1, 2, 3, -2)", RefusalsTest::settled, x -> x.clause(0, 1, 2, 3, -2), NO);
        refused("the 41st clause", RefusalsTest::full, x -> x.clause(0, 1, 0, 0, 0), FULL);
        refused("no sign, also full", RefusalsTest::full, x -> x.clause(0, 0, 0, 0, 0), NO);
        refused("a denial, also full", RefusalsTest::full, x -> x.clause(0, 1, 0, -1, 0), NO);
        refused("a sign beyond, also full", RefusalsTest::full, x -> x.clause(0, 9, 0, 0, 0), BEYOND);
        refused("a book beyond, also no sign", RefusalsTest::full, x -> x.clause(2, 0, 0, 0, 0), BEYOND);
    }

    private static void more() {
        each("more(book, 1)", BOOKS, (x, book) -> x.more(book, 1), BEYOND);
        each("more(book, 0)", BOOKS, (x, book) -> x.more(book, 0), BEYOND);
        each("more(0, sign)", SIGNS, (x, sign) -> x.more(0, sign), BEYOND);
        refused("no clause", TruthWalk::new, x -> x.more(0, 8), MISSING);
        refused("no clause in 1", Walks::small, x -> x.more(1, -8), MISSING);
        refused("a sign beyond, also no clause", TruthWalk::new, x -> x.more(0, 9), BEYOND);
        refused("no sign, also no clause", TruthWalk::new, x -> x.more(0, 0), BEYOND);
        refused("it has it", RefusalsTest::settled, x -> x.more(0, 4), NO);
        refused("it has its denial", RefusalsTest::settled, x -> x.more(0, 2), NO);
        refused("it has it as a denial", RefusalsTest::settled, x -> x.more(0, -2), NO);
        refused("its denial, of one that it has", RefusalsTest::settled, x -> x.more(0, -4), NO);
        refused("it has five", RefusalsTest::full, x -> x.more(0, 6), FULL);
        refused("it has five", RefusalsTest::full, x -> x.more(0, -8), FULL);
        refused("it has it, also five", RefusalsTest::full, x -> x.more(0, 5), NO);
        refused("it has its denial, also five", RefusalsTest::full, x -> x.more(0, -1), NO);
        refused("a sign beyond, also five", RefusalsTest::full, x -> x.more(0, -9), BEYOND);
    }

    private static void drop() {
        each("drop(book)", BOOKS, (x, book) -> x.drop(book), BEYOND);
        refused("no clause", TruthWalk::new, x -> x.drop(0), MISSING);
        refused("no clause in 1", Walks::small, x -> x.drop(1), MISSING);
    }

    private static void askFixLooseWeight() {
        each("ask(book, 1)", BOOKS, (x, book) -> x.ask(book, 1, true), BEYOND);
        each("ask(book, 0)", BOOKS, (x, book) -> x.ask(book, 0, false), BEYOND);
        each("ask(0, letter, true)", LETTERS, (x, letter) -> x.ask(0, letter, true), BEYOND);
        each("ask(0, letter, false)", LETTERS, (x, letter) -> x.ask(0, letter, false), BEYOND);
        each("fix(book, 1)", BOOKS, (x, book) -> x.fix(book, 1), BEYOND);
        each("fix(book, 0)", BOOKS, (x, book) -> x.fix(book, 0), BEYOND);
        each("fix(0, sign)", SIGNS, (x, sign) -> x.fix(0, sign), BEYOND);
        each("loose(book, 3)", BOOKS, (x, book) -> x.loose(book, 3), BEYOND);
        each("loose(book, 0)", BOOKS, (x, book) -> x.loose(book, 0), BEYOND);
        each("loose(0, letter)", LETTERS, (x, letter) -> x.loose(0, letter), BEYOND);
        refused("loose(1, -3)", RefusalsTest::settled, x -> x.loose(1, -3), BEYOND);
        int[] weights = {-1, 8, LEAST, GREATEST};
        each("weight(book, 1, 2)", BOOKS, (x, book) -> x.weight(book, 1, 2), BEYOND);
        each("weight(book, 0, 8)", BOOKS, (x, book) -> x.weight(book, 0, 8), BEYOND);
        each("weight(0, sign, 2)", SIGNS, (x, sign) -> x.weight(0, sign, 2), BEYOND);
        each("weight(0, sign, 8)", SIGNS, (x, sign) -> x.weight(0, sign, 8), BEYOND);
        each("weight(0, 2, w)", weights, (x, w) -> x.weight(0, 2, w), NO);
        each("weight(0, -4, w)", weights, (x, w) -> x.weight(0, -4, w), NO);
    }

    private static void count() {
        each("count(book, 0)", BOOKS, (x, book) -> x.count(book, 0), BEYOND);
        each("count(book, 6)", BOOKS, (x, book) -> x.count(book, 6), BEYOND);
        each("count(0, what)", new int[] {-1, 6, LEAST, GREATEST}, (x, what) -> x.count(0, what), NO);
        each("count(1, what)", new int[] {-1, 6}, (x, what) -> x.count(1, what), NO);
    }

    private static void compileAndRoot() {
        each("compile(book)", BOOKS, (x, book) -> x.compile(book), BEYOND);
        refused("1501 nodes", RefusalsTest::tooLarge, x -> x.compile(0), SPENT);
        each("root(book)", BOOKS, (x, book) -> x.root(book), BEYOND);
        refused("root(1)", RefusalsTest::settled, x -> x.root(1), MISSING);
        refused("root(0)", TruthWalk::new, x -> x.root(0), MISSING);
        refused("root(0) of 1501 nodes", RefusalsTest::tooLarge, x -> x.root(0), MISSING);
    }

    private static void node() {
        each("node(book, 0, 0)", BOOKS, (x, book) -> x.node(book, 0, 0), BEYOND);
        each("node(book, -1, 4)", BOOKS, (x, book) -> x.node(book, -1, 4), BEYOND);
        refused("node(1, 0, 0)", RefusalsTest::settled, x -> x.node(1, 0, 0), MISSING);
        refused("node(1, -1, 4)", RefusalsTest::settled, x -> x.node(1, -1, 4), MISSING);
        each("node(0, node, 0)", NODES, (x, node) -> x.node(0, node, 0), BEYOND);
        each("node(0, node, 4)", NODES, (x, node) -> x.node(0, node, 4), BEYOND);
        each("node(0, 8, what)", new int[] {-1, 4, LEAST, GREATEST}, (x, what) -> x.node(0, 8, what), NO);
        each("node(0, 0, what)", new int[] {-1, 4}, (x, what) -> x.node(0, 0, what), NO);
    }

    private static void part() {
        each("part(book, 8, 0)", BOOKS, (x, book) -> x.part(book, 8, 0), BEYOND);
        each("part(book, 9, 2)", BOOKS, (x, book) -> x.part(book, 9, 2), BEYOND);
        refused("part(1, 8, 0)", RefusalsTest::settled, x -> x.part(1, 8, 0), MISSING);
        refused("part(1, -1, -1)", RefusalsTest::settled, x -> x.part(1, -1, -1), MISSING);
        each("part(0, node, 0)", NODES, (x, node) -> x.part(0, node, 0), BEYOND);
        each("part(0, node, -1)", NODES, (x, node) -> x.part(0, node, -1), BEYOND);
        int[] plain = {0, 1, 2, 4, 6};
        each("part(0, node without parts, 0)", plain, (x, node) -> x.part(0, node, 0), KIND);
        each("part(0, node without parts, -1)", plain, (x, node) -> x.part(0, node, -1), KIND);
        each("part(0, node without parts, 2)", plain, (x, node) -> x.part(0, node, 2), KIND);
        int[] places = {-1, 2, 12, LEAST, GREATEST};
        each("part(0, a choice, j)", places, (x, j) -> x.part(0, 8, j), BEYOND);
        each("part(0, a both, j)", places, (x, j) -> x.part(0, 5, j), BEYOND);
    }

    private static void bend() {
        each("bend(book, 8, 0, 0)", BOOKS, (x, book) -> x.bend(book, 8, 0, 0), BEYOND);
        each("bend(book, 9, 2, 9)", BOOKS, (x, book) -> x.bend(book, 9, 2, 9), BEYOND);
        refused("bend(1, 8, 0, 0)", RefusalsTest::settled, x -> x.bend(1, 8, 0, 0), MISSING);
        refused("bend(1, -1, -1, -1)", RefusalsTest::settled, x -> x.bend(1, -1, -1, -1), MISSING);
        each("bend(0, node, 0, 0)", NODES, (x, node) -> x.bend(0, node, 0, 0), BEYOND);
        each("bend(0, node, -1, -1)", NODES, (x, node) -> x.bend(0, node, -1, -1), BEYOND);
        int[] plain = {0, 1, 2, 4, 6};
        each("bend(0, node without parts, 0, 0)", plain, (x, node) -> x.bend(0, node, 0, 0), KIND);
        each("bend(0, node without parts, -1, 9)", plain, (x, node) -> x.bend(0, node, -1, 9), KIND);
        int[] places = {-1, 2, 12, LEAST, GREATEST};
        each("bend(0, a choice, j, 0)", places, (x, j) -> x.bend(0, 8, j, 0), BEYOND);
        each("bend(0, a both, j, 0)", places, (x, j) -> x.bend(0, 5, j, 0), BEYOND);
        int[] others = {-1, 5, 6, 8, 9, 1500, LEAST, GREATEST};
        each("bend(0, 5, 0, other)", others, (x, other) -> x.bend(0, 5, 0, other), BEYOND);
        each("bend(0, 5, 1, other)", others, (x, other) -> x.bend(0, 5, 1, other), BEYOND);
        each("bend(0, 8, 1, other)", new int[] {-1, 8, 9}, (x, other) -> x.bend(0, 8, 1, other), BEYOND);
    }

    private static void ofBookAndGraphAlone() {
        each("judge(book)", BOOKS, (x, book) -> x.judge(book), BEYOND);
        refused("judge(1)", RefusalsTest::settled, x -> x.judge(1), MISSING);
        each("rows(book)", BOOKS, (x, book) -> x.rows(book), BEYOND);
        refused("rows(1)", RefusalsTest::settled, x -> x.rows(1), MISSING);
        eachWithZero("sum(book)", BOOKS, (x, book) -> x.sum(book), BEYOND);
        refusedWithZero("sum(1)", RefusalsTest::settled, x -> x.sum(1), MISSING);
        each("asked(book)", BOOKS, (x, book) -> x.asked(book), BEYOND);
        refused("asked(1)", RefusalsTest::settled, x -> x.asked(1), MISSING);
        for (int i = 0; i < 2; i++) {
            boolean least = i == 1;
            each("most(book)", BOOKS, (x, book) -> x.most(book, least), BEYOND);
            refused("most(1)", RefusalsTest::settled, x -> x.most(1, least), MISSING);
            refused("most(0) of never", RefusalsTest::never, x -> x.most(0, least), NO);
            refused("most(0), fixed away", RefusalsTest::fixedAway, x -> x.most(0, least), NO);
        }
    }

    private static void saysRankNextWeigh() {
        each("says(book, 0)", BOOKS, (x, book) -> x.says(book, 0), BEYOND);
        each("says(book, -1)", BOOKS, (x, book) -> x.says(book, -1), BEYOND);
        refused("says(1, 0)", RefusalsTest::settled, x -> x.says(1, 0), MISSING);
        refused("says(1, 16)", RefusalsTest::settled, x -> x.says(1, 16), MISSING);
        each("says(0, row)", ROWS, (x, row) -> x.says(0, row), BEYOND);

        each("rank(book, 0)", BOOKS, (x, book) -> x.rank(book, 0), BEYOND);
        each("rank(book, -1)", BOOKS, (x, book) -> x.rank(book, -1), BEYOND);
        refused("rank(1, 0)", RefusalsTest::settled, x -> x.rank(1, 0), MISSING);
        refused("rank(1, 17)", RefusalsTest::settled, x -> x.rank(1, 17), MISSING);
        each("rank(0, row)", new int[] {-1, 17, 4096, LEAST, GREATEST}, (x, row) -> x.rank(0, row), BEYOND);

        each("next(book, 0)", BOOKS, (x, book) -> x.next(book, 0), BEYOND);
        each("next(book, -2)", BOOKS, (x, book) -> x.next(book, -2), BEYOND);
        refused("next(1, 0)", RefusalsTest::settled, x -> x.next(1, 0), MISSING);
        refused("next(1, -2)", RefusalsTest::settled, x -> x.next(1, -2), MISSING);
        each("next(0, row)", new int[] {-2, 16, 17, LEAST, GREATEST}, (x, row) -> x.next(0, row), BEYOND);

        eachWithZero("weigh(book, 0)", BOOKS, (x, book) -> x.weigh(book, 0), BEYOND);
        eachWithZero("weigh(book, -1)", BOOKS, (x, book) -> x.weigh(book, -1), BEYOND);
        eachWithZero("weigh(0, row)", ROWS, (x, row) -> x.weigh(0, row), BEYOND);
        eachWithZero("weigh(1, row)", ROWS, (x, row) -> x.weigh(1, row), BEYOND);
    }

    private static void chance() {
        for (int i = 0; i < 2; i++) {
            boolean lower = i == 1;
            eachWithZero("chance(book, 1)", BOOKS, (x, book) -> x.chance(book, 1, lower), BEYOND);
            eachWithZero("chance(book, 0)", BOOKS, (x, book) -> x.chance(book, 0, lower), BEYOND);
            eachWithZero("chance(0, sign)", SIGNS, (x, sign) -> x.chance(0, sign, lower), BEYOND);
            eachWithZero("no graph, chance(1, sign)", SIGNS, (x, sign) -> x.chance(1, sign, lower), BEYOND);
            refusedWithZero("chance(1, 4)", RefusalsTest::settled, x -> x.chance(1, 4, lower), MISSING);
            refusedWithZero("of never", RefusalsTest::never, x -> x.chance(0, 1, lower), NO);
            refusedWithZero("fixed away", RefusalsTest::fixedAway, x -> x.chance(0, -4, lower), NO);
            refusedWithZero("weightless", RefusalsTest::weightless, x -> x.chance(0, 1, lower), NO);
            refusedWithZero("a sign beyond, of never", RefusalsTest::never, x -> x.chance(0, 5, lower), BEYOND);
        }
    }

    private static void sureAndKth() {
        each("sure(book, 1)", BOOKS, (x, book) -> x.sure(book, 1), BEYOND);
        each("sure(book, 0)", BOOKS, (x, book) -> x.sure(book, 0), BEYOND);
        each("sure(0, sign)", SIGNS, (x, sign) -> x.sure(0, sign), BEYOND);
        each("no graph, sure(1, sign)", SIGNS, (x, sign) -> x.sure(1, sign), BEYOND);
        refused("sure(1, -4)", RefusalsTest::settled, x -> x.sure(1, -4), MISSING);

        each("kth(book, 0)", BOOKS, (x, book) -> x.kth(book, 0), BEYOND);
        each("kth(book, -1)", BOOKS, (x, book) -> x.kth(book, -1), BEYOND);
        refused("kth(1, 0)", RefusalsTest::settled, x -> x.kth(1, 0), MISSING);
        refused("kth(1, -1)", RefusalsTest::settled, x -> x.kth(1, -1), MISSING);
        each("kth(0, k)", BELOW_NOTHING, (x, k) -> x.kth(0, k), BELOW);
        refused("kth(0, -1) of never", RefusalsTest::never, x -> x.kth(0, -1), BELOW);
        refused("kth(0, 0) of never", RefusalsTest::never, x -> x.kth(0, 0), NO);
        refused("kth(0, 0), fixed away", RefusalsTest::fixedAway, x -> x.kth(0, 0), NO);
        refused("kth(0, 5) of five", Walks::small, x -> x.kth(0, 5), NO);
        each("kth(0, k)", new int[] {16, 4096, GREATEST}, (x, k) -> x.kth(0, k), NO);
    }

    private static TruthWalk withoutTheFirst() {
        TruthWalk x = bothCompiled();
        x.drop(0);
        return x;
    }

    private static TruthWalk ofFourAndFive() {
        TruthWalk x = bothCompiled();
        x.letters(1, 5);
        x.compile(1);
        return x;
    }

    private static TruthWalk ofFourAndFiveWithoutGraph() {
        TruthWalk x = settled();
        x.letters(1, 5);
        return x;
    }

    /** 40 clauses and one, of 8 letters and 7. */
    private static TruthWalk fullOfOtherLetters() {
        TruthWalk x = full();
        x.letters(1, 7);
        x.clause(1, 7, 0, 0, 0);
        return x;
    }

    /** 2 clauses and 39. */
    private static TruthWalk oneTooMany() {
        TruthWalk x = new TruthWalk();
        x.clause(0, 1, 2, 0, 0);
        x.clause(0, 3, 0, 0, 0);
        x.compile(0);
        for (int i = 0; i < 39; i++) {
            x.clause(1, 1 + i % 8, 0, 0, 0);
        }
        x.compile(1);
        return x;
    }

    private static void lessAndJoin() {
        for (int i = 0; i < 2; i++) {
            boolean other = i == 1;
            refused("none has a graph", TruthWalk::new, x -> x.less(other), MISSING);
            refused("1 has none", RefusalsTest::settled, x -> x.less(other), MISSING);
            refused("0 has none", RefusalsTest::withoutTheFirst, x -> x.less(other), MISSING);
            refused("1 has none, also 4 and 5", RefusalsTest::ofFourAndFiveWithoutGraph, x -> x.less(other), MISSING);
            refused("4 and 5 letters", RefusalsTest::ofFourAndFive, x -> x.less(other), NO);
        }
        refused("4 and 5 letters", RefusalsTest::ofFourAndFive, x -> x.join(), NO);
        refused("4 and 5 letters, none to come", RefusalsTest::ofFourAndFiveWithoutGraph, x -> x.join(), NO);
        refused("40 and one", RefusalsTest::full, x -> x.join(), FULL);
        refused("2 and 39", RefusalsTest::oneTooMany, x -> x.join(), FULL);
        refused("40 and one, also 8 and 7 letters", RefusalsTest::fullOfOtherLetters, x -> x.join(), NO);
    }

    private static void layAndRow() {
        each("lay(book, 0)", BOOKS, (x, book) -> x.lay(book, 0), BEYOND);
        each("lay(book, -1)", BOOKS, (x, book) -> x.lay(book, -1), BEYOND);
        each("lay(0, clause)", new int[] {-1, 3, 40, LEAST, GREATEST}, (x, clause) -> x.lay(0, clause), BEYOND);
        each("lay(1, clause)", new int[] {-1, 1, 40, LEAST, GREATEST}, (x, clause) -> x.lay(1, clause), BEYOND);
        refused("no clause", TruthWalk::new, x -> x.lay(0, 0), BEYOND);
        refused("clause 40 of 40", RefusalsTest::full, x -> x.lay(0, 40), BEYOND);

        refusedWithZero("no row", TruthWalk::new, x -> x.row(0), MISSING);
        refusedWithZero("no row, also below 0", TruthWalk::new, x -> x.row(-1), MISSING);
        refusedWithZero("no row, also above", TruthWalk::new, x -> x.row(5), MISSING);
        eachWithZero("row(i)", new int[] {-1, 3, 4, 5, LEAST, GREATEST}, (x, i) -> x.row(i), BEYOND);
        refusedWithZero("row(5) of five", RefusalsTest::full, x -> x.row(5), BEYOND);
    }

    private static TruthWalk torn() {
        TruthWalk x = full();
        x.tear();
        return x;
    }

    private static void copy() {
        refused("no row", TruthWalk::new, x -> x.copy(0, 0, 0), MISSING);
        refused("no row, also below 0", TruthWalk::new, x -> x.copy(-1, -1, -1), MISSING);
        refused("no row any more", RefusalsTest::torn, x -> x.copy(0, 0, 1), MISSING);
        each("copy(0, 0, n)", BELOW_NOTHING, (x, n) -> x.copy(0, 0, n), BELOW);
        each("copy(-1, 9, n)", BELOW_NOTHING, (x, n) -> x.copy(-1, 9, n), BELOW);
        each("copy(i, 0, 0)", new int[] {-1, 4, LEAST, GREATEST}, (x, i) -> x.copy(i, 0, 0), COPY);
        each("copy(0, j, 0)", new int[] {-1, 4, LEAST, GREATEST}, (x, j) -> x.copy(0, j, 0), COPY);
        each("copy(i, 0, 1)", new int[] {-1, 3, LEAST, GREATEST}, (x, i) -> x.copy(i, 0, 1), COPY);
        each("copy(0, j, 1)", new int[] {-1, 3, LEAST, GREATEST}, (x, j) -> x.copy(0, j, 1), COPY);
        each("copy(i, 0, 3)", new int[] {-1, 1, LEAST, GREATEST - 2}, (x, i) -> x.copy(i, 0, 3), COPY);
        each("copy(0, j, 3)", new int[] {-1, 1, LEAST, GREATEST - 2}, (x, j) -> x.copy(0, j, 3), COPY);
        each("copy(0, 0, n)", new int[] {4, 5, 6, GREATEST}, (x, n) -> x.copy(0, 0, n), COPY);
        each("copy(1, 0, n)", new int[] {3, 4, GREATEST}, (x, n) -> x.copy(1, 0, n), COPY);
        each("copy(0, 1, n)", new int[] {3, 4, GREATEST}, (x, n) -> x.copy(0, 1, n), COPY);
        each("copy(i, i, GREATEST)", new int[] {1, 2, GREATEST}, (x, i) -> x.copy(i, i, GREATEST), COPY);
        refused("copy(0, 0, 6) of five", RefusalsTest::full, x -> x.copy(0, 0, 6), COPY);
    }

    /** The row is -3 8; book 0 has 8 letters and 40 clauses, book 1 has 7. */
    private static TruthWalk rowOfEight() {
        TruthWalk x = full();
        x.drop(0);
        x.clause(0, 8, -3, 0, 0);
        x.lay(0, 39);
        x.compile(0);
        x.letters(1, 7);
        x.compile(1);
        return x;
    }

    /** The row is 1 2 3 4 5; book 0 has 40 clauses and now 4 letters less than they name. */
    private static TruthWalk rowOfAnEarlierBook() {
        TruthWalk x = full();
        x.letters(0, 4);
        x.compile(0);
        return x;
    }

    private static TruthWalk fullOfFour() {
        TruthWalk x = full();
        x.letters(0, 4);
        for (int i = 0; i < 40; i++) {
            x.clause(0, 1 + i % 4, 0, 0, 0);
        }
        return x;
    }

    private static void give() {
        each("give(book)", BOOKS, (x, book) -> x.give(book), BEYOND);
        refused("no row, also no book", TruthWalk::new, x -> x.give(2), BEYOND);
        refused("no row", TruthWalk::new, x -> x.give(0), MISSING);
        refused("no row in 1", TruthWalk::new, x -> x.give(1), MISSING);
        refused("no row any more, also full", RefusalsTest::torn, x -> x.give(0), MISSING);
        refused("a sign beyond", RefusalsTest::rowOfEight, x -> x.give(1), BEYOND);
        refused("the last sign beyond", RefusalsTest::rowOfAnEarlierBook, x -> x.give(0), BEYOND);
        refused("a sign beyond, also full", RefusalsTest::fullOfFour, x -> x.give(0), BEYOND);
        refused("40 clauses", RefusalsTest::rowOfEight, x -> x.give(0), FULL);
        refused("40 clauses", RefusalsTest::full, x -> x.give(0), FULL);
    }

    private static void status() {
        each("status(by)", new int[] {-1, -10, 0, 1, 9, LEAST, LEAST + 2, GREATEST}, (x, by) -> x.status(by), NO);
    }

    private static void lines(String of, Runnable test) {
        Due.about("refusals of " + of);
        test.run();
    }

    public static void main(String[] args) {
        lines("2 letters", RefusalsTest::letters);
        lines("3 clause", RefusalsTest::clause);
        lines("4 more", RefusalsTest::more);
        lines("5 drop", RefusalsTest::drop);
        lines("6 to 9 ask, fix, loose, weight", RefusalsTest::askFixLooseWeight);
        lines("10 count", RefusalsTest::count);
        lines("11, 12 compile, root", RefusalsTest::compileAndRoot);
        lines("13 node", RefusalsTest::node);
        lines("14 part", RefusalsTest::part);
        lines("15 bend", RefusalsTest::bend);
        lines("16, 18, 20, 26, 28 judge, rows, sum, most, asked", RefusalsTest::ofBookAndGraphAlone);
        lines("19, 24, 25, 27 says, rank, next, weigh", RefusalsTest::saysRankNextWeigh);
        lines("21 chance", RefusalsTest::chance);
        lines("22, 23 sure, kth", RefusalsTest::sureAndKth);
        lines("29, 30 less, join", RefusalsTest::lessAndJoin);
        lines("31, 33 lay, row", RefusalsTest::layAndRow);
        lines("34 copy", RefusalsTest::copy);
        lines("35 give", RefusalsTest::give);
        lines("36 status", RefusalsTest::status);
        Due.end("RefusalsTest");
    }
}
