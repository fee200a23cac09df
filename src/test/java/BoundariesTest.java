/**
 * Each sentence of the document that names a boundary: a call just within it and one just beyond,
 * with what both answer and what status() tells then. (RefusalsTest has all refusals, PromisesTest
 * the ordinary calls.)
 */
public final class BoundariesTest {
    private static final int MISSING = TruthWalk.MISSING;
    private static final int BEYOND = TruthWalk.BEYOND;
    private static final int BELOW = TruthWalk.BELOW;
    private static final int KIND = TruthWalk.KIND;
    private static final int COPY = TruthWalk.COPY;
    private static final int NO = TruthWalk.NO;
    private static final int FULL = TruthWalk.FULL;
    private static final int SPENT = TruthWalk.SPENT;
    private static final int NONE = TruthWalk.NONE;
    private static final int LEAST = Edge.LEAST;
    private static final int GREATEST = Edge.GREATEST;
    private static final long SEVEN_TO_TWELVE = 13841287201L;

    private static final int[][] NEVER = {{1, 2}, {1, -2}, {-1, 2}, {-1, -2}};

    private BoundariesTest() {
    }

    private static void within(String name, TruthWalk x, Edge.Call call, long want) {
        Edge.within(name, x, call, want);
    }

    private static void beyond(String name, TruthWalk x, Edge.Call call, int by) {
        Edge.beyond(name, x, call, by);
    }

    private static void beyondWithZero(String name, TruthWalk x, Edge.Call call, int by) {
        Edge.beyondWithZero(name, x, call, by);
    }

    private static void due(String name, long got, long want) {
        Due.is(name, got, want);
    }

    private static int[] s(int... signs) {
        return signs;
    }

    private static TruthWalk of(int n, int[]... clauses) {
        TruthWalk x = Walks.of(n, clauses);
        x.compile(0);
        return x;
    }

    /** As many clauses of one sign as told, with a graph. */
    private static TruthWalk clauses(int many) {
        TruthWalk x = new TruthWalk();
        for (int i = 0; i < many; i++) {
            x.clause(0, 1 + i % 8, 0, 0, 0);
        }
        x.compile(0);
        return x;
    }

    private static TruthWalk rowOfFive() {
        TruthWalk x = new TruthWalk();
        x.clause(0, 1, -2, 3, -4);
        x.more(0, 5);
        x.lay(0, 0);
        return x;
    }

    private static void rowIs(String when, TruthWalk x, int... want) {
        for (int i = 0; i < want.length; i++) {
            due(when + ": row(" + i + ")", x.row(i), want[i]);
        }
        due(when + ": what is behind it", x.row(want.length), 0);
    }

    // ---- 1: two books without clauses

    private static void books() {
        TruthWalk x = new TruthWalk();
        within("book 0", x, w -> w.count(0, 0), 8);
        within("book 1", x, w -> w.count(1, 0), 8);
        beyond("book 2", x, w -> w.count(2, 0), BEYOND);
        beyond("book -1", x, w -> w.count(-1, 0), BEYOND);
        beyond("the least book", x, w -> w.count(LEAST, 0), BEYOND);
        beyond("the greatest book", x, w -> w.count(GREATEST, 0), BEYOND);
        for (int book = 0; book < 2; book++) {
            int b = book;
            for (int what = 1; what <= 5; what++) {
                int of = what;
                within("count(" + b + ", " + of + ")", new TruthWalk(), w -> w.count(b, of), 0);
            }
            beyond("no clause", new TruthWalk(), w -> w.drop(b), MISSING);
            beyond("no graph", new TruthWalk(), w -> w.root(b), MISSING);
            within("8 letters", new TruthWalk(), w -> w.ask(b, 8, true), 0);
            beyond("not 9", new TruthWalk(), w -> w.ask(b, 9, true), BEYOND);
        }
        within("no judge yet", new TruthWalk(), w -> w.guilty(), NONE);
        within("no row", new TruthWalk(), w -> w.tear(), 0);
    }

    /** A graph that says all rows, of each number of letters. */
    private static void booksWithoutClauses() {
        for (int n = 1; n <= 12; n++) {
            int all = 1 << n;
            TruthWalk x = of(n);
            within("nodes of " + n, x, w -> w.compile(0), 2);
            within("root", x, w -> w.root(0), 0);
            within("rows", x, w -> w.rows(0), all);
            within("says(0, 0)", x, w -> w.says(0, 0), 1);
            within("says(0, the last)", x, w -> w.says(0, all - 1), 1);
            within("sum", x, w -> w.sum(0), all);
            within("kth(0, 0)", x, w -> w.kth(0, 0), 0);
            within("kth(0, the last)", x, w -> w.kth(0, all - 1), all - 1);
            beyond("kth(0, one more)", x, w -> w.kth(0, all), NO);
            within("rank(0, 0)", x, w -> w.rank(0, 0), 0);
            within("rank(0, the last)", x, w -> w.rank(0, all - 1), all - 1);
            within("rank(0, one more)", x, w -> w.rank(0, all), all);
            within("next(0, -1)", x, w -> w.next(0, -1), 0);
            within("next(0, the last but one)", x, w -> w.next(0, all - 2), all - 1);
            within("next(0, the last)", x, w -> w.next(0, all - 1), NONE);
            within("most", x, w -> w.most(0, false), 0);
            within("least", x, w -> w.most(0, true), 0);
            within("asked, where none is", x, w -> w.asked(0), 1);
            within("judge", x, w -> w.judge(0), 0);
            within("guilty", x, w -> w.guilty(), NONE);
            int last = n;
            TruthWalk y = of(n);
            within("upper", y, w -> w.chance(0, last, false), 1);
            within("lower", y, w -> w.chance(0, -last, true), 2);
            within("sure", y, w -> w.sure(0, last), 0);
            within("sure of a denial", y, w -> w.sure(0, -last), 0);
            for (int l = 1; l <= n; l++) {
                y.ask(0, l, true);
            }
            y.compile(0);
            within("asked, where all are", y, w -> w.asked(0), all);
            for (int l = 1; l <= n; l++) {
                y.fix(0, l % 2 == 0 ? l : -l);
            }
            within("rows, where all are fixed", y, w -> w.rows(0), 1);
            within("asked, where all are fixed", y, w -> w.asked(0), 1);
            int row = 0x555 & all - 1;
            within("that row", y, w -> w.next(0, -1), last % 2 == 0 ? row : 0xAAA & all - 1);
        }
    }

    /** A graph that says no row: as its clauses are contrary, or as what is fixed holds in none. */
    private static void graphsThatSayNoRow() {
        for (int n = 2; n <= 12; n++) {
            TruthWalk never = of(n, NEVER);
            within("never: nodes", never, w -> w.count(0, 2), 2);
            within("never: root", never, w -> w.root(0), 1);
            TruthWalk fixed = of(n, s(1, 2));
            fixed.fix(0, -1);
            fixed.fix(0, -2);
            saysNoRow("never of " + n, never, n);
            saysNoRow("fixed away of " + n, fixed, n);
        }
    }

    private static void saysNoRow(String of, TruthWalk x, int n) {
        int all = 1 << n;
        within(of + ": rows", x, w -> w.rows(0), 0);
        within(of + ": says(0, 0)", x, w -> w.says(0, 0), 0);
        within(of + ": says(0, the last)", x, w -> w.says(0, all - 1), 0);
        within(of + ": sum", x, w -> w.sum(0), 0);
        beyondWithZero(of + ": upper", x, w -> w.chance(0, 1, false), NO);
        beyondWithZero(of + ": lower", x, w -> w.chance(0, 1, true), NO);
        within(of + ": sure", x, w -> w.sure(0, 1), 3);
        within(of + ": sure of a denial", x, w -> w.sure(0, -n), 3);
        beyond(of + ": kth(0, 0)", x, w -> w.kth(0, 0), NO);
        within(of + ": rank", x, w -> w.rank(0, all), 0);
        within(of + ": next", x, w -> w.next(0, -1), NONE);
        beyond(of + ": most", x, w -> w.most(0, false), NO);
        beyond(of + ": least", x, w -> w.most(0, true), NO);
        within(of + ": asked", x, w -> w.asked(0), 0);
        within(of + ": judge", x, w -> w.judge(0), 0);
    }

    /** A graph that says one row alone: the first, the last, or one between. */
    private static void graphsThatSayOneRow() {
        for (int n = 1; n <= 12; n++) {
            int all = 1 << n;
            for (int row : new int[] {0, all - 1, 0x5A5 & all - 1}) {
                TruthWalk x = new TruthWalk();
                x.letters(0, n);
                for (int l = n; l >= 1; l--) {
                    x.clause(0, (row >> n - l) % 2 == 1 ? l : -l, 0, 0, 0);
                }
                x.compile(0);
                due("nodes", x.count(0, 2), n == 1 ? 3 : n + 3);
                due("rows", x.rows(0), 1);
                due("kth(0, 0)", x.kth(0, 0), row);
                due("kth(0, 1)", x.kth(0, 1), NO);
                due("says", x.says(0, row), 1);
                due("next of the one before", x.next(0, row - 1), row);
                due("next of it", x.next(0, row), NONE);
                due("rank of it", x.rank(0, row), 0);
                due("rank of the one behind", x.rank(0, row + 1), 1);
                due("most", x.most(0, false), row);
                due("least", x.most(0, true), row);
                due("sure", x.sure(0, n), row % 2 == 1 ? 1 : 2);
                due("upper", x.chance(0, n, false), row % 2);
                due("lower", x.chance(0, n, true), 1);
                due("asked", x.asked(0), 1);
                due("judge", x.judge(0), 0);
            }
        }
    }

    // ---- 2: letters

    private static void lettersOneToTwelve() {
        TruthWalk x = new TruthWalk();
        beyond("letters(0, 0)", x, w -> w.letters(0, 0), NO);
        within("letters(0, 1)", x, w -> w.letters(0, 1), 8);
        within("letters(0, 12)", x, w -> w.letters(0, 12), 1);
        beyond("letters(0, 13)", x, w -> w.letters(0, 13), NO);
        within("letters(1, 12)", x, w -> w.letters(1, 12), 8);
        within("letters(1, 1)", x, w -> w.letters(1, 1), 12);
        beyond("letters(1, -1)", x, w -> w.letters(1, -1), NO);
        beyond("letters(1, LEAST)", x, w -> w.letters(1, LEAST), NO);
        beyond("letters(1, GREATEST)", x, w -> w.letters(1, GREATEST), NO);
        within("N of 0", x, w -> w.count(0, 0), 12);
        within("N of 1", x, w -> w.count(1, 0), 1);
    }

    /** All is as at first then, also where N stays; all else stays. */
    private static void lettersTakeAllAway() {
        for (int n : new int[] {4, 5, 12}) {
            TruthWalk x = Walks.small();
            x.clause(1, 8, 0, 0, 0);
            x.ask(1, 8, true);
            x.fix(1, 8);
            x.weight(1, 8, 7);
            x.compile(1);
            x.ask(0, 4, true);
            x.fix(0, -4);
            x.weight(0, 4, 0);
            x.weight(0, -4, 7);
            x.compile(0);
            x.bend(0, 2, 0, 0);
            x.bend(0, 5, 0, 0);
            x.judge(0);
            int guilty = x.guilty();
            x.lay(0, 0);
            within("letters(0, " + n + ")", x, w -> w.letters(0, n), 4);
            within("clauses", x, w -> w.count(0, 1), 0);
            within("asked", x, w -> w.count(0, 4), 0);
            within("fixed", x, w -> w.count(0, 5), 0);
            beyond("graph", x, w -> w.root(0), MISSING);
            within("weight", x, w -> w.weight(0, 4, 1), 1);
            within("weight of a denial", x, w -> w.weight(0, -4, 1), 1);
            within("guilty stays", x, w -> w.guilty(), guilty);
            rowIs("the row stays", x, 1, 2);
            within("the other book: clauses", x, w -> w.count(1, 1), 1);
            within("asked", x, w -> w.asked(1), 1);
            within("the graph", x, w -> w.rows(1), 128);
            within("the weights", x, w -> w.sum(1), 128 * 7);
            within("fixed", x, w -> w.fix(1, 8), 0);
        }
    }

    // ---- 3, 4, 5: clause, more, drop

    private static void signsOfClauses() {
        for (int n : new int[] {1, 4, 12}) {
            int more = n + 1;
            TruthWalk x = new TruthWalk();
            x.letters(0, n);
            within("the last letter as a", x, w -> w.clause(0, n, 0, 0, 0), 0);
            within("its denial as b", x, w -> w.clause(0, 0, -n, 0, 0), 1);
            within("its denial as c", x, w -> w.clause(0, 0, 0, -n, 0), 2);
            within("the last letter as d", x, w -> w.clause(0, 0, 0, 0, n), 3);
            beyond("one more as a", x, w -> w.clause(0, more, 0, 0, 0), BEYOND);
            beyond("one more as b", x, w -> w.clause(0, n, -more, 0, 0), BEYOND);
            beyond("one more as c", x, w -> w.clause(0, n, 0, more, 0), BEYOND);
            beyond("one more as d", x, w -> w.clause(0, n, 0, 0, -more), BEYOND);
            beyond("LEAST", x, w -> w.clause(0, n, LEAST, 0, 0), BEYOND);
            beyond("GREATEST", x, w -> w.clause(0, n, 0, GREATEST, 0), BEYOND);
        }
    }

    private static void oneToFourSignsOfClauses() {
        TruthWalk x = new TruthWalk();
        beyond("no sign", x, w -> w.clause(0, 0, 0, 0, 0), NO);
        within("one sign", x, w -> w.clause(0, 0, 0, 3, 0), 0);
        due("as many", x.lay(0, 0), 1);
        within("two signs", x, w -> w.clause(0, 8, 0, 0, -1), 1);
        due("as many", x.lay(0, 1), 2);
        within("three signs", x, w -> w.clause(0, 4, -2, 0, 3), 2);
        due("as many", x.lay(0, 2), 3);
        within("four signs", x, w -> w.clause(0, 4, -3, 2, -1), 3);
        due("as many", x.lay(0, 3), 4);
        within("the same twice", x, w -> w.clause(0, 2, 2, 0, 0), 4);
        due("counts once", x.lay(0, 4), 1);
        within("the same four times", x, w -> w.clause(0, -8, -8, -8, -8), 5);
        due("counts once", x.lay(0, 5), 1);
        within("two of them twice", x, w -> w.clause(0, 7, -6, 7, -6), 6);
        due("count once each", x.lay(0, 6), 2);
        beyond("a sign and its denial", x, w -> w.clause(0, 7, 0, 0, -7), NO);
        beyond("twice, and its denial", x, w -> w.clause(0, -1, 1, -1, 0), NO);
        within("a letter of the other sign", x, w -> w.clause(0, 7, 0, 0, -8), 7);
    }

    private static void fortyClauses() {
        TruthWalk x = clauses(39);
        within("the 40th", x, w -> w.clause(0, 1, 2, 0, 0), 39);
        beyond("the 41st", x, w -> w.clause(0, 1, 2, 0, 0), FULL);
        within("40 stand", x, w -> w.count(0, 1), 40);
        within("the 40th grows", x, w -> w.more(0, 3), 3);
        within("it is made into a graph", x, w -> w.compile(0), 11);
        within("one goes", x, w -> w.drop(0), 39);
        within("one comes", x, w -> w.clause(0, 8, 0, 0, 0), 39);
        beyond("no more", x, w -> w.clause(0, 8, 0, 0, 0), FULL);
        within("the other book has room", x, w -> w.clause(1, 8, 0, 0, 0), 0);
        within("lay(0, 39)", x, w -> w.lay(0, 39), 1);
        within("letters() makes room", x, w -> w.letters(0, 8), 8);
        within("the first again", x, w -> w.clause(0, 8, 0, 0, 0), 0);
    }

    private static void fiveSigns() {
        TruthWalk x = new TruthWalk();
        beyond("no clause", x, w -> w.more(0, 1), MISSING);
        x.clause(0, 2, 0, 0, 0);
        x.clause(0, 1, 0, 0, 0);
        within("the 2nd", x, w -> w.more(0, 2), 2);
        within("the 3rd", x, w -> w.more(0, -3), 3);
        within("the 4th", x, w -> w.more(0, -8), 4);
        within("the 5th", x, w -> w.more(0, 4), 5);
        beyond("the 6th", x, w -> w.more(0, 5), FULL);
        beyond("one that it has", x, w -> w.more(0, 4), NO);
        beyond("its denial", x, w -> w.more(0, 3), NO);
        beyond("a sign beyond", x, w -> w.more(0, 9), BEYOND);
        within("five", x, w -> w.lay(0, 1), 5);
        rowIs("by letters", x, 1, 2, -3, 4, -8);
        within("the clause before it has one", x, w -> w.lay(0, 0), 1);
        x.drop(0);
        within("that is the last one now", x, w -> w.more(0, 1), 2);
        x.drop(0);
        beyond("no clause any more", x, w -> w.more(0, 1), MISSING);
    }

    private static void signsOfMore() {
        for (int n : new int[] {2, 12}) {
            TruthWalk x = new TruthWalk();
            x.letters(1, n);
            x.clause(1, 1, 0, 0, 0);
            beyond("no sign", x, w -> w.more(1, 0), BEYOND);
            beyond("one more", x, w -> w.more(1, n + 1), BEYOND);
            beyond("one more, denied", x, w -> w.more(1, -n - 1), BEYOND);
            beyond("LEAST", x, w -> w.more(1, LEAST), BEYOND);
            beyond("GREATEST", x, w -> w.more(1, GREATEST), BEYOND);
            within("the last, denied", x, w -> w.more(1, -n), 2);
        }
    }

    private static void drops() {
        TruthWalk x = clauses(40);
        within("40", x, w -> w.drop(0), 39);
        for (int i = 38; i > 0; i--) {
            due("drop", x.drop(0), i);
        }
        within("the last one", x, w -> w.drop(0), 0);
        beyond("none", x, w -> w.drop(0), MISSING);
        within("it is empty", x, w -> w.compile(0), 2);
        within("and says all", x, w -> w.rows(0), 256);
    }

    // ---- 6 to 9: ask, fix, loose, weight

    private static void lettersAsked() {
        for (int n : new int[] {1, 12}) {
            TruthWalk x = new TruthWalk();
            x.letters(0, n);
            beyond("letter 0", x, w -> w.ask(0, 0, true), BEYOND);
            beyond("a denial", x, w -> w.ask(0, -1, true), BEYOND);
            beyond("one more", x, w -> w.ask(0, n + 1, true), BEYOND);
            beyond("LEAST", x, w -> w.ask(0, LEAST, false), BEYOND);
            beyond("GREATEST", x, w -> w.ask(0, GREATEST, false), BEYOND);
            within("none", x, w -> w.count(0, 4), 0);
            within("not asked, not to be", x, w -> w.ask(0, n, false), 0);
            within("the last", x, w -> w.ask(0, n, true), 0);
            within("it was", x, w -> w.ask(0, n, true), 1);
            within("one", x, w -> w.count(0, 4), 1);
            for (int l = 1; l < n; l++) {
                due("ask", x.ask(0, l, true), 0);
            }
            within("all", x, w -> w.count(0, 4), n);
            within("none of the other book", x, w -> w.count(1, 4), 0);
            within("not any more", x, w -> w.ask(0, 1, false), 1);
            within("it was not", x, w -> w.ask(0, 1, false), 0);
            within("all but one", x, w -> w.count(0, 4), n - 1);
        }
    }

    private static void signsFixed() {
        for (int n : new int[] {1, 12}) {
            TruthWalk x = of(n);
            beyond("sign 0", x, w -> w.fix(0, 0), BEYOND);
            beyond("one more", x, w -> w.fix(0, n + 1), BEYOND);
            beyond("one more, denied", x, w -> w.fix(0, -n - 1), BEYOND);
            beyond("LEAST", x, w -> w.fix(0, LEAST), BEYOND);
            beyond("GREATEST", x, w -> w.fix(0, GREATEST), BEYOND);
            within("none", x, w -> w.count(0, 5), 0);
            within("the last, denied", x, w -> w.fix(0, -n), 1);
            within("it was", x, w -> w.fix(0, -n), 0);
            within("half the rows", x, w -> w.rows(0), 1 << n - 1);
            within("says the last row no", x, w -> w.says(0, (1 << n) - 1), 0);
            within("in place of it", x, w -> w.fix(0, n), 2);
            within("it was", x, w -> w.fix(0, n), 0);
            within("at most one of a letter", x, w -> w.count(0, 5), 1);
            within("half the rows", x, w -> w.rows(0), 1 << n - 1);
            within("says the last row yes", x, w -> w.says(0, (1 << n) - 1), 1);
            for (int l = 1; l < n; l++) {
                due("fix", x.fix(0, l), 1);
            }
            within("all", x, w -> w.count(0, 5), n);
            within("one row", x, w -> w.rows(0), 1);
            within("none of the other book", x, w -> w.count(1, 5), 0);
        }
    }

    private static void lettersLoose() {
        for (int n : new int[] {1, 12}) {
            TruthWalk x = of(n);
            beyond("letter 0", x, w -> w.loose(0, 0), BEYOND);
            beyond("one more", x, w -> w.loose(0, n + 1), BEYOND);
            beyond("LEAST", x, w -> w.loose(0, LEAST), BEYOND);
            beyond("GREATEST", x, w -> w.loose(0, GREATEST), BEYOND);
            within("the last is not", x, w -> w.loose(0, n), 0);
            x.fix(0, -n);
            beyond("a denial is no letter", x, w -> w.loose(0, -n), BEYOND);
            within("the last was, denied", x, w -> w.loose(0, n), 1);
            within("not any more", x, w -> w.loose(0, n), 0);
            x.fix(0, n);
            within("the last was", x, w -> w.loose(0, n), 1);
            within("none", x, w -> w.count(0, 5), 0);
            within("all rows", x, w -> w.rows(0), 1 << n);
            x.fix(0, n);
            within("as at first", x, w -> w.count(0, 5), 1);
        }
    }

    private static void weightsNoneToSeven() {
        TruthWalk x = of(12);
        beyond("-1", x, w -> w.weight(0, 12, -1), NO);
        within("0", x, w -> w.weight(0, 12, 0), 1);
        within("7", x, w -> w.weight(0, 12, 7), 0);
        beyond("8", x, w -> w.weight(0, 12, 8), NO);
        beyond("LEAST", x, w -> w.weight(0, 12, LEAST), NO);
        beyond("GREATEST", x, w -> w.weight(0, 12, GREATEST), NO);
        within("it is as it was", x, w -> w.weight(0, 12, 7), 7);
        within("its denial has its own", x, w -> w.weight(0, -12, 0), 1);
        within("so has the other book", x, w -> w.weight(1, 8, 5), 1);
        beyond("no sign", x, w -> w.weight(0, 0, 1), BEYOND);
        beyond("one more", x, w -> w.weight(0, 13, 1), BEYOND);
        beyond("one more, denied", x, w -> w.weight(0, -13, 1), BEYOND);
        beyond("of the other book", x, w -> w.weight(1, -9, 1), BEYOND);
        beyond("LEAST", x, w -> w.weight(0, LEAST, 1), BEYOND);
        beyond("GREATEST", x, w -> w.weight(0, GREATEST, 1), BEYOND);
        within("2048 rows of 7", x, w -> w.sum(0), 2048 * 7);
    }

    // ---- 10: count

    private static void counts() {
        TruthWalk x = of(12, Walks.JUST_ROOM);
        Walks.askAll(x, 0, Walks.ASKED_OF_LARGE);
        for (int l = 1; l <= 12; l++) {
            x.fix(0, l);
        }
        beyond("count(0, -1)", x, w -> w.count(0, -1), NO);
        within("N", x, w -> w.count(0, 0), 12);
        within("clauses", x, w -> w.count(0, 1), 40);
        within("no nodes without a graph", x, w -> w.count(0, 2), 0);
        within("nor pieces met again", x, w -> w.count(0, 3), 0);
        within("asked", x, w -> w.count(0, 4), 8);
        within("fixed", x, w -> w.count(0, 5), 12);
        beyond("count(0, 6)", x, w -> w.count(0, 6), NO);
        beyond("count(0, LEAST)", x, w -> w.count(0, LEAST), NO);
        beyond("count(0, GREATEST)", x, w -> w.count(0, GREATEST), NO);
        x.compile(0);
        within("nodes", x, w -> w.count(0, 2), 1500);
        within("pieces met again", x, w -> w.count(0, 3), 16);
        x.drop(0);
        within("no nodes without a graph", x, w -> w.count(0, 2), 0);
        within("nor pieces met again", x, w -> w.count(0, 3), 0);
    }

    private static void piecesMetAgain() {
        TruthWalk x = of(5, s(1, 2, 3), s(4, 5));
        within("once, as it comes", x, w -> w.count(0, 3), 0);
        TruthWalk y = of(6, s(1, 2), s(-1, 3), s(1, 4, 5), s(-1, 4, 5));
        within("twice: once again", y, w -> w.count(0, 3), 1);
        TruthWalk z = Walks.of(5, s(1, 4, 5), s(-1, 2, 4, 5), s(-1, -2, 4, 5));
        z.ask(0, 1, true);
        z.ask(0, 2, true);
        z.compile(0);
        // Yes of 1: (2 4 5) (-2 4 5), whose yes and no of 2 are (4 5). No of 1: (4 5).
        within("three times: twice again", z, w -> w.count(0, 3), 2);
        within("compiled again it is not met yet", z, w -> w.compile(0), z.count(0, 2));
        within("as many as before", z, w -> w.count(0, 3), 2);
    }

    // ---- 11, 12: compile, root

    private static void fifteenHundredNodes() {
        TruthWalk x = Walks.of(12, Walks.JUST_ROOM);
        Walks.askAll(x, 0, Walks.ASKED_OF_LARGE);
        within("1500 nodes", x, w -> w.compile(0), 1500);
        within("root", x, w -> w.root(0), 1499);
        within("node 1499", x, w -> w.node(0, 1499, 0), 4);
        beyond("node 1500", x, w -> w.node(0, 1500, 0), BEYOND);
        within("it is bent", x, w -> w.bend(0, 1499, 1, 1498), x.part(0, 1499, 1));
        beyond("not to itself", x, w -> w.bend(0, 1499, 1, 1499), BEYOND);
        within("made anew", x, w -> w.compile(0), 1500);
        within("the judge", x, w -> w.judge(0), 0);

        TruthWalk y = Walks.of(12, Walks.ONE_TOO_MANY);
        Walks.askAll(y, 0, Walks.ASKED_OF_LARGE);
        spent("a choice as the 1501st", y);
        TruthWalk z = Walks.of(12, Walks.BOTH_TOO_MANY);
        Walks.askAll(z, 0, Walks.ASKED_OF_BOTH);
        spent("a both as the 1501st", z);
    }

    private static void spent(String of, TruthWalk x) {
        beyond(of, x, w -> w.compile(0), SPENT);
        beyond(of + ": no root", x, w -> w.root(0), MISSING);
        beyond(of + ": no node", x, w -> w.node(0, 0, 0), MISSING);
        within(of + ": no nodes", x, w -> w.count(0, 2), 0);
        within(of + ": none met again", x, w -> w.count(0, 3), 0);
        within(of + ": the other book is made", x, w -> w.compile(1), 2);
        beyond(of + ", once more", x, w -> w.compile(0), SPENT);
        within(of + ": clauses stay", x, w -> w.count(0, 1), 40);
        for (int i = 0; i < 39; i++) {
            x.drop(0);
        }
        within(of + ": with one clause it is made", x, w -> w.judge(w.compile(0) > 0 ? 0 : 2), 0);
    }

    /** Kinds and names of the nodes behind NEVER; PromisesTest has their parts, too. */
    private static void nodes(String of, TruthWalk x, int... kindsAndNames) {
        within(of + ": nodes", x, w -> w.compile(0), 2 + kindsAndNames.length / 2);
        for (int i = 0; i * 2 < kindsAndNames.length; i++) {
            due(of + ": kind of " + (i + 2), x.node(0, i + 2, 0), kindsAndNames[2 * i]);
            due(of + ": name of " + (i + 2), x.node(0, i + 2, 1), kindsAndNames[2 * i + 1]);
        }
        due(of + ": judge", x.judge(0), 0);
    }

    private static void listsAtTheirEnds() {
        nodes("no clause", of(3));
        nodes("one clause of one sign", of(3, s(-3)), 2, -3);
        nodes("one sign and its denial", of(3, s(-3), s(3)));
        nodes("a sign and what it leaves without one", of(3, s(1), s(-1, -2), s(2)));
        nodes("one clause of two signs", of(3, s(3, 1)), 2, 3, 4, 1);
        nodes("one clause of five signs", of(5, s(1, 2, 3, 4, -5)), 2, -5, 4, 4, 4, 3, 4, 2, 4, 1);
        nodes("alike at first, which would count for the most",
            of(4, s(1, 2), s(1, 3), s(2, 4), s(4, 2), s(2, 4)),
            2, 4, 4, 2, 2, 2, 2, 3, 3, 0, 4, 1);
        nodes("not alike: the denials differ", of(2, s(1, 2), s(-1, 2)), 2, 2, 4, 1);
        nodes("alike where a sign was taken, which would count for the most",
            of(5, s(-5, 2, 4), s(5), s(2, 4), s(1, 2), s(1, 3)),
            2, 4, 4, 2, 2, 2, 2, 3, 3, 0, 4, 1, 2, 5, 3, 0);
    }

    /** A list is not the same as one that begins alike and is longer, nor as one that is shorter. */
    private static void listsThatBeginAlike() {
        TruthWalk longer = Walks.of(5, s(-2, 3), s(1, -2, 5), s(1, 4));
        longer.ask(0, 4, true);
        nodes("the longer one first", longer, 2, 5, 4, 1, 2, 3, 3, 0, 4, 2, 4, 2, 2, 1, 3, 0, 4, 4);
        within("none is met again", longer, w -> w.count(0, 3), 0);
        TruthWalk shorter = Walks.of(5, s(-2, 3), s(1, -2, 5), s(1, -4));
        shorter.ask(0, 4, true);
        nodes("the shorter one first", shorter, 2, 3, 4, 2, 2, 1, 3, 0, 2, 5, 4, 1, 3, 0, 4, 2, 4, 4);
        within("none is met again", shorter, w -> w.count(0, 3), 0);
    }

    private static void sixPieces() {
        TruthWalk x = of(12, s(11, 12), s(1, 2), s(9, 10), s(3, 4), s(7, 8), s(5, 6));
        within("six lits, six choices, a both", x, w -> w.count(0, 2), 15);
        within("six parts", x, w -> w.node(0, 14, 2), 6);
        within("the first", x, w -> w.part(0, 14, 0), 3);
        within("the last", x, w -> w.part(0, 14, 5), 13);
        beyond("one more", x, w -> w.part(0, 14, 6), BEYOND);
        within("all letters", x, w -> w.node(0, 14, 3), 4095);
        within("rows", x, w -> w.rows(0), 729);
        within("judge", x, w -> w.judge(0), 0);
    }

    // ---- 13, 14, 15: node, part, bend

    private static void nodesAndWhat() {
        TruthWalk x = Walks.small();
        beyond("node -1", x, w -> w.node(0, -1, 0), BEYOND);
        within("node 0", x, w -> w.node(0, 0, 0), 0);
        within("node 8", x, w -> w.node(0, 8, 0), 4);
        beyond("node 9", x, w -> w.node(0, 9, 0), BEYOND);
        beyond("node LEAST", x, w -> w.node(0, LEAST, 0), BEYOND);
        beyond("node GREATEST", x, w -> w.node(0, GREATEST, 0), BEYOND);
        beyond("what -1", x, w -> w.node(0, 8, -1), NO);
        within("what 0", x, w -> w.node(0, 8, 0), 4);
        within("what 3", x, w -> w.node(0, 8, 3), 15);
        beyond("what 4", x, w -> w.node(0, 8, 4), NO);
        beyond("what LEAST", x, w -> w.node(0, 8, LEAST), NO);
        beyond("what GREATEST", x, w -> w.node(0, 8, GREATEST), NO);
        for (int what = 0; what < 4; what++) {
            int of = what;
            within("TRUE", x, w -> w.node(0, 0, of), 0);
            within("NEVER", x, w -> w.node(0, 1, of), of == 0 ? 1 : 0);
        }
        TruthWalk first = of(12, s(1));
        within("letter 1 is bit 0", first, w -> w.node(0, 2, 3), 1);
        TruthWalk last = of(12, s(-12));
        within("letter 12 is bit 11", last, w -> w.node(0, 2, 3), 2048);
        within("a sign may be -12", last, w -> w.node(0, 2, 1), -12);
        TruthWalk two = of(12, s(-2), s(-9));
        within("or as a refusal is", two, w -> w.node(0, 2, 1), -2);
        within("or as a refusal is", two, w -> w.node(0, 3, 1), -9);
    }

    private static void places() {
        TruthWalk x = Walks.small();
        within("yes", x, w -> w.part(0, 8, 0), 5);
        within("no", x, w -> w.part(0, 8, 1), 7);
        beyond("part 2 of a choice", x, w -> w.part(0, 8, 2), BEYOND);
        beyond("part -1 of a choice", x, w -> w.part(0, 8, -1), BEYOND);
        beyond("part LEAST", x, w -> w.part(0, 8, LEAST), BEYOND);
        beyond("part GREATEST", x, w -> w.part(0, 8, GREATEST), BEYOND);
        within("part 1 of a both", x, w -> w.part(0, 5, 1), 3);
        beyond("part 2 of a both", x, w -> w.part(0, 5, 2), BEYOND);
        beyond("of TRUE", x, w -> w.part(0, 0, 0), KIND);
        beyond("of NEVER", x, w -> w.part(0, 1, 0), KIND);
        beyond("of a LIT", x, w -> w.part(0, 2, 0), KIND);
        within("of the least that has some", x, w -> w.part(0, 3, 0), 2);
        beyond("of node -1", x, w -> w.part(0, -1, 0), BEYOND);
        beyond("of node 9", x, w -> w.part(0, 9, 0), BEYOND);
        TruthWalk twelve = of(12, s(1), s(2), s(3), s(4), s(5), s(6), s(7), s(8), s(9), s(10), s(11), s(12));
        within("part 11 of twelve", twelve, w -> w.part(0, 14, 11), 13);
        beyond("part 12 of twelve", twelve, w -> w.part(0, 14, 12), BEYOND);
        within("part 11 is bent", twelve, w -> w.bend(0, 14, 11, 0), 13);
        beyond("part 12 is not", twelve, w -> w.bend(0, 14, 12, 0), BEYOND);
        within("two rows then", twelve, w -> w.rows(0), 2);
    }

    private static void bends() {
        TruthWalk x = Walks.small();
        beyond("other -1", x, w -> w.bend(0, 5, 0, -1), BEYOND);
        within("other 0", x, w -> w.bend(0, 5, 0, 0), 4);
        within("other 4, the next lesser", x, w -> w.bend(0, 5, 0, 4), 0);
        beyond("other 5, itself", x, w -> w.bend(0, 5, 0, 5), BEYOND);
        beyond("other 6", x, w -> w.bend(0, 5, 0, 6), BEYOND);
        beyond("other LEAST", x, w -> w.bend(0, 5, 0, LEAST), BEYOND);
        beyond("other GREATEST", x, w -> w.bend(0, 5, 0, GREATEST), BEYOND);
        beyond("j -1", x, w -> w.bend(0, 5, -1, 0), BEYOND);
        within("j 1", x, w -> w.bend(0, 5, 1, 1), 3);
        within("to what it is", x, w -> w.bend(0, 5, 1, 1), 1);
        within("back", x, w -> w.bend(0, 5, 1, 3), 1);
        beyond("j 2", x, w -> w.bend(0, 5, 2, 0), BEYOND);
        beyond("j LEAST", x, w -> w.bend(0, 5, LEAST, 0), BEYOND);
        beyond("j GREATEST", x, w -> w.bend(0, 5, GREATEST, 0), BEYOND);
        beyond("node -1", x, w -> w.bend(0, -1, 0, 0), BEYOND);
        beyond("node 2: a LIT", x, w -> w.bend(0, 2, 0, 0), KIND);
        within("node 3: the least choice", x, w -> w.bend(0, 3, 0, 2), 2);
        within("node 8: the last", x, w -> w.bend(0, 8, 1, 7), 7);
        beyond("node 9", x, w -> w.bend(0, 9, 0, 0), BEYOND);
        within("as it was", x, w -> w.rows(0), 5);
        within("right", x, w -> w.judge(0), 0);
        within("the root to TRUE", x, w -> w.bend(0, 8, 0, 0), 5);
        within("and TRUE", x, w -> w.bend(0, 8, 1, 0), 7);
        within("says all", x, w -> w.rows(0), 16);
        within("the root to NEVER", x, w -> w.bend(0, 8, 0, 1), 0);
        within("and NEVER", x, w -> w.bend(0, 8, 1, 1), 0);
        within("says none", x, w -> w.rows(0), 0);
        within("its letters: its own alone", x, w -> w.node(0, 8, 3), 1);
    }

    // ---- 16, 17: judge, guilty

    private static void judgements() {
        TruthWalk x = Walks.small();
        within("right", x, w -> w.judge(0), 0);
        within("none is guilty", x, w -> w.guilty(), NONE);
        x.bend(0, 8, 0, 0);
        x.bend(0, 8, 1, 0);
        within("all are said", x, w -> w.judge(0), 3);
        within("row 0 is guilty", x, w -> w.guilty(), 0);
        TruthWalk y = of(4, s(-1, -2, -3, -4));
        within("right", y, w -> w.judge(0), 0);
        int root = y.root(0);
        y.bend(0, root, 0, 0);
        y.bend(0, root, 1, 0);
        within("all are said, but the last is not whole", y, w -> w.judge(0), 3);
        within("row 15 is guilty", y, w -> w.guilty(), 15);
        beyond("a refused judge", y, w -> w.judge(1), MISSING);
        within("the latest that was not: row 15", y, w -> w.guilty(), 15);
        beyond("a refused judge", y, w -> w.judge(2), BEYOND);
        within("row 15", y, w -> w.guilty(), 15);
        y.compile(0);
        within("compiled: row 15 yet", y, w -> w.guilty(), 15);
        y.compile(1);
        within("the other book", y, w -> w.judge(1), 0);
        within("the latest: none", y, w -> w.guilty(), NONE);
        for (int n = 2; n <= 12; n++) {
            TruthWalk z = of(n, NEVER);
            due("never is right", z.judge(0), 0);
            TruthWalk t = of(n);
            due("true is right", t.judge(0), 0);
        }
    }

    /** 2 L2, 3 C1(0 2), 4 L4, 5 C3(0 4), 6 B(3 5). */
    private static void sharedLetters() {
        TruthWalk x = of(4, s(1, 2), s(3, 4));
        within("they share none", x, w -> w.judge(0), 0);
        x.bend(0, 6, 1, 2);
        within("one shared letter, of another KIND", x, w -> w.judge(0), 1);
        within("the both is guilty", x, w -> w.guilty(), 6);
        x.bend(0, 6, 1, 3);
        within("the same part twice", x, w -> w.judge(0), 1);
        x.bend(0, 6, 1, 0);
        within("TRUE has no letter", x, w -> w.judge(0), 3);
        x.bend(0, 6, 0, 0);
        within("TRUE and TRUE share none", x, w -> w.judge(0), 3);
        within("row 0 is said", x, w -> w.guilty(), 0);
        x.bend(0, 6, 1, 1);
        within("TRUE and NEVER share none", x, w -> w.judge(0), 3);
        within("row 5 is the least whole one", x, w -> w.guilty(), 5);
        x.bend(0, 6, 0, 1);
        within("NEVER and NEVER share none", x, w -> w.judge(0), 3);
        TruthWalk three = of(6, s(1, 2), s(3, 4), s(5, 6));
        int root = three.root(0);
        within("three parts", three, w -> w.judge(0), 0);
        within("the third as the first", three, w -> w.bend(0, root, 2, 3), 7);
        within("the first and the third share", three, w -> w.judge(0), 1);
        within("back", three, w -> w.bend(0, root, 2, 7), 3);
        within("the second as the third", three, w -> w.bend(0, root, 1, 7), 5);
        within("the second and the third share", three, w -> w.judge(0), 1);
    }

    /** Of two that are wrong the least NODE, of a BOTH and a CHOICE the BOTH. */
    private static void theLeastNode() {
        // 2 L2, 3 L3, 4 B(2 3), 5 C1(0 4), 6 L5, 7 L6, 8 B(6 7), 9 C4(0 8), 10 B(5 9)
        TruthWalk x = of(6, s(1, 2), s(1, 3), s(4, 5), s(4, 6));
        due("nodes", x.count(0, 2), 11);
        due("root", x.part(0, 10, 1), 9);
        x.bend(0, 8, 0, 7);
        within("one both", x, w -> w.judge(0), 1);
        within("node 8", x, w -> w.guilty(), 8);
        x.bend(0, 4, 0, 3);
        within("two boths", x, w -> w.judge(0), 1);
        within("the least: node 4", x, w -> w.guilty(), 4);
        x.compile(0);
        x.bend(0, 9, 1, 5);
        within("a choice on another one's letter shares in the both above", x, w -> w.judge(0), 1);
        within("node 10", x, w -> w.guilty(), 10);
        TruthWalk y = of(3, s(1, 2, 3), s(1, 2, -3), s(-1, 2, 3));
        // 2 L3, 3 C2(0 2), 4 C2(0 1), 5 C1(3 4)
        y.bend(0, 4, 0, 3);
        within("its letter in yes", y, w -> w.judge(0), 2);
        within("node 4", y, w -> w.guilty(), 4);
        y.bend(0, 4, 0, 0);
        y.bend(0, 4, 1, 3);
        within("its letter in no", y, w -> w.judge(0), 2);
        within("node 4", y, w -> w.guilty(), 4);
        y.fix(0, -2);
        within("fixed ones aside", y, w -> w.judge(0), 2);
        // 2 L3, 3 C2(0 2), 4 C2(0 1), 5 C1(3 4), 6 L6, 7 C5(0 6), 8 C5(0 1), 9 C4(7 8), 10 B(5 9)
        TruthWalk z = of(6, s(1, 2, 3), s(1, 2, -3), s(-1, 2, 3), s(4, 5, 6), s(4, 5, -6), s(-4, 5, 6));
        due("nodes", z.count(0, 2), 11);
        z.bend(0, 8, 1, 7);
        within("one choice", z, w -> w.judge(0), 2);
        within("node 8", z, w -> w.guilty(), 8);
        z.bend(0, 4, 1, 3);
        within("two choices", z, w -> w.judge(0), 2);
        within("the least: node 4", z, w -> w.guilty(), 4);
    }

    // ---- 18 to 28: what a graph tells

    private static void rowsOfNumbers() {
        TruthWalk x = Walks.small();
        beyond("says(0, -1)", x, w -> w.says(0, -1), BEYOND);
        within("says(0, 0)", x, w -> w.says(0, 0), 0);
        within("says(0, 15)", x, w -> w.says(0, 15), 1);
        beyond("says(0, 16)", x, w -> w.says(0, 16), BEYOND);
        beyond("says(0, LEAST)", x, w -> w.says(0, LEAST), BEYOND);
        beyond("says(0, GREATEST)", x, w -> w.says(0, GREATEST), BEYOND);
        beyond("rank(0, -1)", x, w -> w.rank(0, -1), BEYOND);
        within("rank(0, 0)", x, w -> w.rank(0, 0), 0);
        within("rank(0, 15), there", x, w -> w.rank(0, 15), 4);
        within("rank(0, 14), not there", x, w -> w.rank(0, 14), 4);
        within("rank(0, 16)", x, w -> w.rank(0, 16), 5);
        beyond("rank(0, 17)", x, w -> w.rank(0, 17), BEYOND);
        beyond("rank(0, LEAST)", x, w -> w.rank(0, LEAST), BEYOND);
        beyond("rank(0, GREATEST)", x, w -> w.rank(0, GREATEST), BEYOND);
        beyond("next(0, -2)", x, w -> w.next(0, -2), BEYOND);
        within("next(0, -1)", x, w -> w.next(0, -1), 5);
        within("next(0, 0)", x, w -> w.next(0, 0), 5);
        within("next(0, 14)", x, w -> w.next(0, 14), 15);
        within("next(0, 15)", x, w -> w.next(0, 15), NONE);
        beyond("next(0, 16)", x, w -> w.next(0, 16), BEYOND);
        beyond("next(0, LEAST)", x, w -> w.next(0, LEAST), BEYOND);
        beyond("next(0, GREATEST)", x, w -> w.next(0, GREATEST), BEYOND);
        beyondWithZero("weigh(0, -1)", x, w -> w.weigh(0, -1), BEYOND);
        within("weigh(0, 0)", x, w -> w.weigh(0, 0), 1);
        within("weigh(0, 15)", x, w -> w.weigh(0, 15), 1);
        beyondWithZero("weigh(0, 16)", x, w -> w.weigh(0, 16), BEYOND);
        within("weigh(1, 255), without a graph", x, w -> w.weigh(1, 255), 1);
    }

    private static void moreRowsOfNumbers() {
        TruthWalk x = of(12);
        within("says(0, 4095)", x, w -> w.says(0, 4095), 1);
        beyond("says(0, 4096)", x, w -> w.says(0, 4096), BEYOND);
        within("weigh(0, 4095)", x, w -> w.weigh(0, 4095), 1);
        beyondWithZero("weigh(0, 4096)", x, w -> w.weigh(0, 4096), BEYOND);
        beyondWithZero("weigh(0, LEAST)", x, w -> w.weigh(0, LEAST), BEYOND);
        beyondWithZero("weigh(0, GREATEST)", x, w -> w.weigh(0, GREATEST), BEYOND);
        within("rank(0, 4096)", x, w -> w.rank(0, 4096), 4096);
        beyond("rank(0, 4097)", x, w -> w.rank(0, 4097), BEYOND);
        within("next(0, 4095)", x, w -> w.next(0, 4095), NONE);
        beyond("next(0, 4096)", x, w -> w.next(0, 4096), BEYOND);
        within("kth(0, 4095)", x, w -> w.kth(0, 4095), 4095);
        beyond("kth(0, 4096)", x, w -> w.kth(0, 4096), NO);
        TruthWalk y = of(1, s(-1));
        within("one row of two", y, w -> w.rows(0), 1);
        within("row 0", y, w -> w.says(0, 0), 1);
        within("not row 1", y, w -> w.says(0, 1), 0);
        beyond("no row 2", y, w -> w.says(0, 2), BEYOND);
        within("rank(0, 2)", y, w -> w.rank(0, 2), 1);
        beyond("rank(0, 3)", y, w -> w.rank(0, 3), BEYOND);
        within("next(0, 0)", y, w -> w.next(0, 0), NONE);
        within("next(0, 1)", y, w -> w.next(0, 1), NONE);
        beyond("next(0, 2)", y, w -> w.next(0, 2), BEYOND);
    }

    private static void placesOfRows() {
        TruthWalk x = Walks.small();
        beyond("kth(0, -1)", x, w -> w.kth(0, -1), BELOW);
        within("kth(0, 0)", x, w -> w.kth(0, 0), 5);
        within("kth(0, 4)", x, w -> w.kth(0, 4), 15);
        beyond("kth(0, 5)", x, w -> w.kth(0, 5), NO);
        beyond("kth(0, LEAST)", x, w -> w.kth(0, LEAST), BELOW);
        beyond("kth(0, GREATEST)", x, w -> w.kth(0, GREATEST), NO);
        x.fix(0, 1);
        within("of fixed: kth(0, 0)", x, w -> w.kth(0, 0), 10);
        within("of fixed: kth(0, 2)", x, w -> w.kth(0, 2), 15);
        beyond("of fixed: kth(0, 3)", x, w -> w.kth(0, 3), NO);
    }

    private static void sumsAtTheirEnds() {
        TruthWalk x = of(12);
        for (int l = 1; l <= 12; l++) {
            x.weight(0, l, 7);
            x.weight(0, -l, 7);
        }
        within("the heaviest row", x, w -> w.weigh(0, 4095), SEVEN_TO_TWELVE);
        within("the greatest sum", x, w -> w.sum(0), SEVEN_TO_TWELVE * 4096);
        within("upper of the greatest", x, w -> w.chance(0, 12, false), 1);
        within("lower of the greatest", x, w -> w.chance(0, 12, true), 2);
        x.weight(0, -12, 6);
        within("7 of 13", x, w -> w.chance(0, 12, false), 7);
        within("7 of 13", x, w -> w.chance(0, 12, true), 13);
        within("6 of 13", x, w -> w.chance(0, -12, false), 6);
        within("the least of the greatest", x, w -> w.most(0, false), 1);
        within("the least of the least", x, w -> w.most(0, true), 0);
        x.weight(0, 12, 0);
        within("0 of all: 0", x, w -> w.chance(0, 12, false), 0);
        within("0 of all: of 1", x, w -> w.chance(0, 12, true), 1);
        within("all: 1", x, w -> w.chance(0, -12, false), 1);
        within("all: of 1", x, w -> w.chance(0, -12, true), 1);
        within("a weight of 0 is the least", x, w -> w.most(0, true), 1);
        within("a row of no weight", x, w -> w.weigh(0, 4095), 0);
        x.weight(0, -12, 0);
        within("no sum", x, w -> w.sum(0), 0);
        beyondWithZero("no chance", x, w -> w.chance(0, 12, false), NO);
        beyondWithZero("no chance", x, w -> w.chance(0, 1, true), NO);
        within("the rows are there: the least", x, w -> w.most(0, false), 0);
        within("it holds in some", x, w -> w.sure(0, 12), 0);
    }

    private static void signsOfChanceAndSure() {
        for (int n : new int[] {1, 12}) {
            TruthWalk x = of(n);
            within("chance of the last", x, w -> w.chance(0, n, true), 2);
            within("chance of its denial", x, w -> w.chance(0, -n, true), 2);
            beyondWithZero("chance of none", x, w -> w.chance(0, 0, true), BEYOND);
            beyondWithZero("chance of one more", x, w -> w.chance(0, n + 1, true), BEYOND);
            beyondWithZero("chance of one more, denied", x, w -> w.chance(0, -n - 1, true), BEYOND);
            beyondWithZero("chance of LEAST", x, w -> w.chance(0, LEAST, true), BEYOND);
            beyondWithZero("chance of GREATEST", x, w -> w.chance(0, GREATEST, true), BEYOND);
            within("sure of the last", x, w -> w.sure(0, n), 0);
            within("sure of its denial", x, w -> w.sure(0, -n), 0);
            beyond("sure of none", x, w -> w.sure(0, 0), BEYOND);
            beyond("sure of one more", x, w -> w.sure(0, n + 1), BEYOND);
            beyond("sure of one more, denied", x, w -> w.sure(0, -n - 1), BEYOND);
            beyond("sure of LEAST", x, w -> w.sure(0, LEAST), BEYOND);
            beyond("sure of GREATEST", x, w -> w.sure(0, GREATEST), BEYOND);
        }
    }

    /** 1 of 3 rows, 2 of 3, all of 3, none of 3: (1 2). */
    private static void someAllNone() {
        TruthWalk x = of(2, s(1, 2));
        within("in some", x, w -> w.sure(0, 1), 0);
        within("in some, denied", x, w -> w.sure(0, -1), 0);
        within("2 of 3", x, w -> w.chance(0, 1, false), 2);
        within("1 of 3", x, w -> w.chance(0, -1, false), 1);
        x.fix(0, -1);
        within("in all", x, w -> w.sure(0, 2), 1);
        within("in none", x, w -> w.sure(0, -2), 2);
        within("in none: what is fixed, denied", x, w -> w.sure(0, 1), 2);
        within("in all: what is fixed", x, w -> w.sure(0, -1), 1);
        within("1 of 1", x, w -> w.chance(0, 2, true), 1);
        within("0 of 1", x, w -> w.chance(0, -2, true), 1);
        within("0", x, w -> w.chance(0, -2, false), 0);
        x.fix(0, -2);
        within("no row", x, w -> w.sure(0, 1), 3);
        within("no row", x, w -> w.sure(0, -1), 3);
    }

    private static void askedWays() {
        TruthWalk x = Walks.small();
        within("none asked, rows: one way", x, w -> w.asked(0), 1);
        x.ask(0, 4, true);
        x.compile(0);
        within("one asked: both ways", x, w -> w.asked(0), 2);
        x.fix(0, 4);
        within("one asked and fixed", x, w -> w.asked(0), 1);
        x.loose(0, 4);
        x.ask(0, 1, true);
        x.ask(0, 2, true);
        x.ask(0, 3, true);
        x.compile(0);
        within("all asked: as many as rows", x, w -> w.asked(0), 5);
        x.fix(0, -1);
        x.fix(0, -2);
        within("no rows: no way", x, w -> w.asked(0), 0);
        beyond("no graph", x, w -> w.asked(1), MISSING);
    }

    // ---- 29, 30: less, join

    private static void lessAtItsEnds() {
        for (int n : new int[] {1, 6, 7, 12}) {
            TruthWalk x = new TruthWalk();
            x.letters(0, n);
            x.letters(1, n);
            x.compile(0);
            beyond("1 has none", x, w -> w.less(false), MISSING);
            beyond("1 has none", x, w -> w.less(true), MISSING);
            x.compile(1);
            within("all and all", x, w -> w.less(false), 0);
            within("all and all", x, w -> w.less(true), 0);
            x.clause(1, n, 0, 0, 0);
            x.compile(1);
            within("all without half", x, w -> w.less(false), 1 << n - 1);
            within("half without all", x, w -> w.less(true), 0);
            x.clause(1, -n, 0, 0, 0);
            x.compile(1);
            within("all without none", x, w -> w.less(false), 1 << n);
            within("none without all", x, w -> w.less(true), 0);
            x.drop(1);
            x.drop(1);
            x.compile(1);
            x.fix(0, n);
            x.fix(1, -n);
            within("half without the other half", x, w -> w.less(false), 1 << n - 1);
            within("half without the other half", x, w -> w.less(true), 1 << n - 1);
            x.letters(1, n == 12 ? 11 : n + 1);
            beyond("no graph any more, nor as many letters", x, w -> w.less(true), MISSING);
            x.compile(1);
            beyond("not as many letters", x, w -> w.less(true), NO);
            beyond("not as many letters", x, w -> w.less(false), NO);
        }
    }

    private static void joinUpToForty() {
        TruthWalk x = clauses(39);
        within("none to come", x, w -> w.join(), 39);
        within("the graph stays", x, w -> w.rows(0), 1);
        x.clause(1, -1, 2, 0, 0);
        within("39 and one", x, w -> w.join(), 40);
        beyond("the graph went", x, w -> w.rows(0), MISSING);
        beyond("40 and one", x, w -> w.join(), FULL);
        within("40", x, w -> w.count(0, 1), 40);
        within("it stands behind", x, w -> w.lay(0, 39), 2);
        rowIs("as it was", x, -1, 2);
        within("1 has it yet", x, w -> w.count(1, 1), 1);
        x.drop(1);
        within("40 and none", x, w -> w.join(), 40);
        TruthWalk y = new TruthWalk();
        for (int i = 0; i < 40; i++) {
            y.clause(1, 8, -1, 0, 0);
        }
        y.more(1, 3);
        y.compile(1);
        within("none and 40", y, w -> w.join(), 40);
        within("the last has three", y, w -> w.lay(0, 39), 3);
        within("the graph of 1 stays", y, w -> w.rows(1) > 0 ? 1 : 0, 1);
        beyond("40 and 40", y, w -> w.join(), FULL);
        TruthWalk z = new TruthWalk();
        within("none and none", z, w -> w.join(), 0);
        z.letters(1, 9);
        beyond("8 and 9 letters", z, w -> w.join(), NO);
        z.letters(0, 9);
        within("9 and 9", z, w -> w.join(), 0);
        z.letters(0, 10);
        beyond("10 and 9", z, w -> w.join(), NO);
    }

    // ---- 31 to 35: the row

    private static void layOneToFive() {
        TruthWalk x = clauses(40);
        beyond("clause -1", x, w -> w.lay(0, -1), BEYOND);
        within("not there yet", x, w -> w.tear(), 0);
        within("clause 0", x, w -> w.lay(0, 0), 1);
        within("clause 39", x, w -> w.lay(0, 39), 1);
        beyond("clause 40", x, w -> w.lay(0, 40), BEYOND);
        beyond("clause LEAST", x, w -> w.lay(0, LEAST), BEYOND);
        beyond("clause GREATEST", x, w -> w.lay(0, GREATEST), BEYOND);
        beyond("clause 0 of none", x, w -> w.lay(1, 0), BEYOND);
        rowIs("as it was laid", x, 8);
        TruthWalk y = new TruthWalk();
        y.letters(1, 12);
        y.clause(1, 12, -1, -11, 6);
        within("four", y, w -> w.lay(1, 0), 4);
        rowIs("by letters", y, -1, 6, -11, 12);
        y.more(1, -2);
        rowIs("the clause has grown, not the row", y, -1, 6, -11, 12);
        within("five", y, w -> w.lay(1, 0), 5);
        rowIs("by letters", y, -1, -2, 6, -11, 12);
        y.drop(1);
        y.clause(1, -9, 0, 0, 0);
        within("one in place of five", y, w -> w.lay(1, 0), 1);
        rowIs("it alone", y, -9);
        within("the graph of 0 stays", x, w -> w.rows(0), 1);
    }

    private static void tears() {
        TruthWalk x = rowOfFive();
        within("there", x, w -> w.tear(), 1);
        within("missing", x, w -> w.tear(), 0);
        within("missing", x, w -> w.tear(), 0);
        x.lay(0, 0);
        within("there again", x, w -> w.tear(), 1);
        beyondWithZero("row", x, w -> w.row(0), MISSING);
        beyond("copy", x, w -> w.copy(0, 0, 0), MISSING);
        beyond("give", x, w -> w.give(0), MISSING);
    }

    private static void numbersOfTheRow() {
        TruthWalk x = rowOfFive();
        beyondWithZero("row(-1)", x, w -> w.row(-1), BEYOND);
        within("row(0)", x, w -> w.row(0), 1);
        within("row(1), a sign as a refusal is", x, w -> w.row(1), -2);
        within("row(4)", x, w -> w.row(4), 5);
        beyondWithZero("row(5)", x, w -> w.row(5), BEYOND);
        beyondWithZero("row(LEAST)", x, w -> w.row(LEAST), BEYOND);
        beyondWithZero("row(GREATEST)", x, w -> w.row(GREATEST), BEYOND);
        x.tear();
        beyondWithZero("row(0), missing", x, w -> w.row(0), MISSING);
        beyondWithZero("row(-1), missing", x, w -> w.row(-1), MISSING);
    }

    private static void copies() {
        TruthWalk x = rowOfFive();
        beyond("n -1", x, w -> w.copy(0, 0, -1), BELOW);
        within("n 0", x, w -> w.copy(0, 0, 0), 0);
        within("n 0 at the end", x, w -> w.copy(5, 5, 0), 0);
        beyond("i at the end and one", x, w -> w.copy(6, 5, 0), COPY);
        beyond("j at the end and one", x, w -> w.copy(5, 6, 0), COPY);
        within("n 5", x, w -> w.copy(0, 0, 5), 5);
        beyond("n 6", x, w -> w.copy(0, 0, 6), COPY);
        rowIs("nothing moved", x, 1, -2, 3, -4, 5);
        within("the last to the first", x, w -> w.copy(4, 0, 1), 1);
        beyond("i one more", x, w -> w.copy(5, 0, 1), COPY);
        beyond("i below 0", x, w -> w.copy(-1, 0, 1), COPY);
        rowIs("the last is the first", x, 5, -2, 3, -4, 5);
        within("the second to the last", x, w -> w.copy(1, 4, 1), 1);
        beyond("j one more", x, w -> w.copy(1, 5, 1), COPY);
        beyond("j below 0", x, w -> w.copy(1, -1, 1), COPY);
        rowIs("the second is the last", x, 5, -2, 3, -4, -2);
        within("four upwards, as they were", x, w -> w.copy(0, 1, 4), 4);
        rowIs("upwards", x, 5, 5, -2, 3, -4);
        within("four downwards, as they were", x, w -> w.copy(1, 0, 4), 4);
        rowIs("downwards", x, 5, -2, 3, -4, -4);
    }

    private static void copiesThatWouldWrap() {
        TruthWalk x = rowOfFive();
        beyond("i + n", x, w -> w.copy(GREATEST, 0, 1), COPY);
        beyond("j + n", x, w -> w.copy(0, GREATEST, 1), COPY);
        beyond("i + n to below", x, w -> w.copy(1, 0, GREATEST), COPY);
        beyond("j + n to below", x, w -> w.copy(0, 1, GREATEST), COPY);
        beyond("all as great", x, w -> w.copy(GREATEST, GREATEST, GREATEST), COPY);
        beyond("i as small", x, w -> w.copy(LEAST, 0, 0), COPY);
        beyond("j as small", x, w -> w.copy(0, LEAST, 0), COPY);
        beyond("i + n to within", x, w -> w.copy(LEAST, 0, GREATEST), COPY);
        beyond("n as small", x, w -> w.copy(LEAST, LEAST, LEAST), BELOW);
        rowIs("nothing moved", x, 1, -2, 3, -4, 5);
    }

    private static void gives() {
        TruthWalk x = rowOfFive();
        within("five", x, w -> w.give(1), 0);
        within("five", x, w -> w.lay(1, 0), 5);
        rowIs("the same", x, 1, -2, 3, -4, 5);
        beyond("no more into that clause", x, w -> w.more(1, 6), FULL);
        x.copy(0, 1, 4);
        x.copy(0, 1, 4);
        x.copy(0, 1, 4);
        x.copy(0, 1, 4);
        rowIs("one and the same", x, 1, 1, 1, 1, 1);
        within("counts once", x, w -> w.give(1), 1);
        within("one", x, w -> w.lay(1, 1), 1);
        x.letters(0, 1);
        within("the last letter of 0", x, w -> w.give(0), 0);
        x.lay(1, 0);
        beyond("-2 is beyond", x, w -> w.give(0), BEYOND);
        x.letters(0, 4);
        beyond("5 is beyond", x, w -> w.give(0), BEYOND);
        x.letters(0, 5);
        within("5 is not", x, w -> w.give(0), 0);
        x.compile(0);
        within("the 2nd", x, w -> w.give(0), 1);
        beyond("the graph went", x, w -> w.root(0), MISSING);
        for (int i = 2; i < 39; i++) {
            due("give", x.give(0), i);
        }
        within("the 40th", x, w -> w.give(0), 39);
        beyond("the 41st", x, w -> w.give(0), FULL);
        within("the row is there yet", x, w -> w.tear(), 1);
    }

    // ---- 36: status

    private static void statuses() {
        TruthWalk x = new TruthWalk();
        for (int by = -9; by <= -2; by++) {
            due("status(" + by + ")", x.status(by), 0);
        }
        due("status(-1)", x.status(-1), NO);
        due("status(-10)", x.status(-10), NO);
        due("status(0)", x.status(0), NO);
        due("status(2)", x.status(2), NO);
        due("status(LEAST)", x.status(LEAST), NO);
        due("status(GREATEST)", x.status(GREATEST), NO);
        due("they were refused, too", x.status(NO), 6);
        for (int by = -9; by <= -2; by++) {
            due("status(" + by + ") then", x.status(by), by == NO ? 6 : 0);
        }
    }

    /** The 512th call of an object is the last that is promised. */
    private static void manyCalls() {
        TruthWalk x = new TruthWalk();
        for (int i = 1; i < 512; i++) {
            due("refused", x.fix(2, i), BEYOND);
        }
        due("the 512th call", x.status(BEYOND), 511);
        TruthWalk y = Walks.of(12, Walks.JUST_ROOM);
        Walks.askAll(y, 0, Walks.ASKED_OF_LARGE);
        int used = 1 + 40 + 8;
        for (int[] clause : Walks.JUST_ROOM) {
            used += clause.length > 4 ? 1 : 0;
        }
        for (; used < 511; used++) {
            due("compiled", y.compile(0), 1500);
        }
        due("the 512th call", y.rows(0), 854);
    }

    // ---- what takes a graph away, and what doesn't

    private static void stays(String name, Edge.Call call, long want) {
        TruthWalk x = twoGraphs();
        due(name, call.on(x), want);
        due(name + ": the graph of 0 stays", x.count(0, 2), 9);
        due(name + ": the graph of 1 stays", x.count(1, 2), 3);
    }

    private static void takesAway(String name, Edge.Call call, long want) {
        TruthWalk x = twoGraphs();
        due(name, call.on(x), want);
        due(name + ": the graph of 0 went", x.count(0, 2), 0);
        due(name + ": the graph of 0 is missing", x.root(0), MISSING);
        due(name + ": the graph of 1 stays", x.count(1, 2), 3);
    }

    /** Of book 0 (1 2) (-1 3) (-2 4), 1 asked, with a graph of nine nodes; of book 1 (3). */
    private static TruthWalk twoGraphs() {
        TruthWalk x = Walks.small();
        x.letters(1, 4);
        x.clause(1, 3, 0, 0, 0);
        x.compile(1);
        x.lay(1, 0);
        x.ask(0, 1, true);
        x.compile(0);
        return x;
    }

    private static void graphsComeAndGo() {
        takesAway("letters(0, 4)", x -> x.letters(0, 4), 4);
        takesAway("letters(0, 5)", x -> x.letters(0, 5), 4);
        takesAway("clause", x -> x.clause(0, 1, 0, 0, 0), 3);
        takesAway("more", x -> x.more(0, 1), 3);
        takesAway("drop", x -> x.drop(0), 2);
        takesAway("ask one more", x -> x.ask(0, 2, true), 0);
        takesAway("ask one less", x -> x.ask(0, 1, false), 1);
        takesAway("join", x -> x.join(), 4);
        takesAway("give", x -> x.give(0), 3);
        stays("ask what is asked", x -> x.ask(0, 1, true), 1);
        stays("don't ask what is not asked", x -> x.ask(0, 2, false), 0);
        stays("fix", x -> x.fix(0, 1), 1);
        stays("loose", x -> x.loose(0, 1), 0);
        stays("weight", x -> x.weight(0, 1, 0), 1);
        stays("bend", x -> x.bend(0, 8, 0, 0), 5);
        stays("judge", x -> x.judge(0), 0);
        stays("compile", x -> x.compile(0), 9);
        stays("lay", x -> x.lay(0, 0), 2);
        stays("tear", x -> x.tear(), 1);
        stays("copy", x -> x.copy(0, 0, 1), 1);
        stays("a refused clause", x -> x.clause(0, 0, 0, 0, 0), NO);
        stays("a refused more", x -> x.more(0, 2), NO);
        stays("a refused letters", x -> x.letters(0, 13), NO);
        stays("a refused ask", x -> x.ask(0, 5, true), BEYOND);
    }

    private static void promise(String of, Runnable test) {
        Due.about(of);
        test.run();
    }

    private static void booksAndClauses() {
        promise("1 two books", BoundariesTest::books);
        promise("1, 18 .. 28 a graph that says all", BoundariesTest::booksWithoutClauses);
        promise("11, 18 .. 28 a graph that says no row", BoundariesTest::graphsThatSayNoRow);
        promise("11, 18 .. 28 a graph that says one row", BoundariesTest::graphsThatSayOneRow);
        promise("2 N 1 .. 12", BoundariesTest::lettersOneToTwelve);
        promise("2 they are as at first", BoundariesTest::lettersTakeAllAway);
        promise("3 signs of none", BoundariesTest::signsOfClauses);
        promise("3 none, the same more than once", BoundariesTest::oneToFourSignsOfClauses);
        promise("3 40 at most", BoundariesTest::fortyClauses);
        promise("4 1 to 5 signs", BoundariesTest::fiveSigns);
        promise("4 signs of none", BoundariesTest::signsOfMore);
        promise("5 there is none", BoundariesTest::drops);
        promise("6 letters of none", BoundariesTest::lettersAsked);
        promise("7 at most one of a letter", BoundariesTest::signsFixed);
        promise("8 letters of none", BoundariesTest::lettersLoose);
        promise("9 weights 0 .. 7", BoundariesTest::weightsNoneToSeven);
        promise("10 what", BoundariesTest::counts);
        promise("10 met again", BoundariesTest::piecesMetAgain);
        promise("terms 4: graphs come and go", BoundariesTest::graphsComeAndGo);
    }

    private static void graphs() {
        promise("11 1500 nodes at most", BoundariesTest::fifteenHundredNodes);
        promise("11 lists at their ends", BoundariesTest::listsAtTheirEnds);
        promise("11 the same clauses, in the same order", BoundariesTest::listsThatBeginAlike);
        promise("11 six pieces", BoundariesTest::sixPieces);
        promise("13 nodes of none, what", BoundariesTest::nodesAndWhat);
        promise("14 parts of none", BoundariesTest::places);
        promise("15 a lesser number than its own", BoundariesTest::bends);
        promise("16, 17 0, 3, NONE", BoundariesTest::judgements);
        promise("16, 17 1", BoundariesTest::sharedLetters);
        promise("16, 17 the first of these, the least node", BoundariesTest::theLeastNode);
    }

    private static void tellings() {
        promise("19, 24, 25, 27 rows of none", BoundariesTest::rowsOfNumbers);
        promise("19, 24, 25, 27 of 12 letters and of one", BoundariesTest::moreRowsOfNumbers);
        promise("23 k", BoundariesTest::placesOfRows);
        promise("20, 21, 26, 27 sums", BoundariesTest::sumsAtTheirEnds);
        promise("21, 22 signs of none", BoundariesTest::signsOfChanceAndSure);
        promise("21, 22 all, none, some", BoundariesTest::someAllNone);
        promise("28 ways", BoundariesTest::askedWays);
        promise("29 all, none", BoundariesTest::lessAtItsEnds);
        promise("30 up to 40", BoundariesTest::joinUpToForty);
    }

    private static void theRow() {
        promise("31 clauses of none, one to five", BoundariesTest::layOneToFive);
        promise("32 missing", BoundariesTest::tears);
        promise("33 places", BoundariesTest::numbersOfTheRow);
        promise("34 places", BoundariesTest::copies);
        promise("34 as great as an int", BoundariesTest::copiesThatWouldWrap);
        promise("35 signs of none, 40 at most", BoundariesTest::gives);
        promise("36 -2 .. -9", BoundariesTest::statuses);
        promise("512 calls", BoundariesTest::manyCalls);
    }

    public static void main(String[] args) {
        booksAndClauses();
        graphs();
        tellings();
        theRow();
        Due.end("BoundariesTest");
    }
}
