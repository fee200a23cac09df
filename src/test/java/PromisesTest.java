/** Each promise of the document by itself: ordinary calls, the edges it names, and refusals. */
public final class PromisesTest {
    private static final int MISSING = TruthWalk.MISSING;
    private static final int BEYOND = TruthWalk.BEYOND;
    private static final int BELOW = TruthWalk.BELOW;
    private static final int KIND = TruthWalk.KIND;
    private static final int COPY = TruthWalk.COPY;
    private static final int NO = TruthWalk.NO;
    private static final int FULL = TruthWalk.FULL;
    private static final int SPENT = TruthWalk.SPENT;
    private static final int LEAST = Integer.MIN_VALUE;
    private static final int GREATEST = Integer.MAX_VALUE;

    private PromisesTest() {
    }

    private static void due(String call, long got, long want) {
        Due.is(call, got, want);
    }

    private static TruthWalk of(int n, int[]... clauses) {
        return Walks.of(n, clauses);
    }

    private static int[] s(int... signs) {
        return signs;
    }

    // A node as text: its kind, its sign or letter, then its parts.
    private static String told(TruthWalk x, int node) {
        StringBuilder text = new StringBuilder();
        text.append("TNLBC".charAt(x.node(0, node, 0)));
        if (x.node(0, node, 1) != 0) {
            text.append(x.node(0, node, 1));
        }
        for (int j = 0; j < x.node(0, node, 2); j++) {
            text.append(j == 0 ? '(' : ' ').append(x.part(0, node, j));
        }
        return text.append(x.node(0, node, 2) > 0 ? ")" : "").toString();
    }

    private static void graphIs(String of, TruthWalk x, String... nodes) {
        due(of + ": compile", x.compile(0), nodes.length + 2);
        for (int i = 0; i < nodes.length && i + 2 < x.count(0, 2); i++) {
            String got = told(x, i + 2);
            Due.holds(of + ": node " + (i + 2) + " is " + got + ", due is " + nodes[i], got.equals(nodes[i]));
        }
    }

    private static void newObject() {
        TruthWalk x = new TruthWalk();
        for (int book = 0; book < 2; book++) {
            due("count(0)", x.count(book, 0), 8);
            for (int what = 1; what <= 5; what++) {
                due("count(" + what + ")", x.count(book, what), 0);
            }
            due("rows", x.rows(book), MISSING);
            for (int l = 1; l <= 8; l++) {
                due("weight", x.weight(book, l, 1), 1);
                due("weight", x.weight(book, -l, 1), 1);
            }
        }
        due("guilty", x.guilty(), TruthWalk.NONE);
        due("tear", x.tear(), 0);
        due("status(MISSING)", x.status(MISSING), 2);
        due("status(NO)", x.status(NO), 0);
        due("compile", x.compile(0), 2);
        due("root", x.root(0), 0);
        due("rows", x.rows(0), 256);
        due("sum", x.sum(0), 256);
    }

    private static void letters() {
        TruthWalk x = Walks.small();
        x.ask(0, 2, true);
        x.fix(0, 1);
        x.weight(0, -4, 5);
        x.compile(0);
        due("letters(0, 0)", x.letters(0, 0), NO);
        due("letters(0, 13)", x.letters(0, 13), NO);
        due("letters(0, LEAST)", x.letters(0, LEAST), NO);
        due("letters(2, 0)", x.letters(2, 0), BEYOND);
        due("letters(-1, 4)", x.letters(-1, 4), BEYOND);
        due("a refused one takes nothing away", x.rows(0), 3);
        due("letters(0, 4)", x.letters(0, 4), 4);
        for (int what = 1; what <= 5; what++) {
            due("count(" + what + ") then", x.count(0, what), 0);
        }
        due("rows then", x.rows(0), MISSING);
        due("weight then", x.weight(0, -4, 1), 1);
        due("letters(0, 12)", x.letters(0, 12), 4);
        due("letters(0, 1)", x.letters(0, 1), 12);
        due("count(0, 0)", x.count(0, 0), 1);
        due("count(1, 0)", x.count(1, 0), 8);
        x.compile(0);
        due("letters(0, 1) as it was", x.letters(0, 1), 1);
        due("root: the graph went", x.root(0), MISSING);
        due("status(NO)", x.status(NO), 3);
    }

    private static void clause() {
        TruthWalk x = new TruthWalk();
        x.letters(0, 4);
        due("clause(0, 4, -4, ..)", x.clause(0, 4, -4, 0, 0), NO);
        due("clause(0, 1, 2, -4, 4)", x.clause(0, 1, 2, -4, 4), NO);
        due("clause(0, none)", x.clause(0, 0, 0, 0, 0), NO);
        due("clause(0, 5, -5)", x.clause(0, 5, -5, 0, 0), BEYOND);
        due("clause(0, 1, -1, 0, -5)", x.clause(0, 1, -1, 0, -5), BEYOND);
        due("clause(0, LEAST)", x.clause(0, LEAST, 0, 0, 0), BEYOND);
        due("clause(0, .., GREATEST)", x.clause(0, 0, 0, GREATEST, 0), BEYOND);
        due("clause(2, none)", x.clause(2, 0, 0, 0, 0), BEYOND);
        due("clause(0, 0, -3, 0, -3)", x.clause(0, 0, -3, 0, -3), 0);
        due("lay", x.lay(0, 0), 1);
        due("row(0)", x.row(0), -3);
        x.compile(0);
        due("refused", x.clause(0, 1, -1, 0, 0), NO);
        due("the graph stays", x.rows(0), 8);
        for (int i = 1; i < 40; i++) {
            due("clause " + i, x.clause(0, 4, 3, -2, 1), i);
        }
        due("the graph went", x.rows(0), MISSING);
        due("clause 41", x.clause(0, 1, 0, 0, 0), FULL);
        due("none is NO ahead of FULL", x.clause(0, 0, 0, 0, 0), NO);
        due("BEYOND ahead of FULL", x.clause(0, 5, 0, 0, 0), BEYOND);
        due("count", x.count(0, 1), 40);
        due("the other book", x.clause(1, 8, 0, 0, 0), 0);
    }

    private static void more() {
        TruthWalk x = new TruthWalk();
        due("more(0, 1)", x.more(0, 1), MISSING);
        due("more(0, 0)", x.more(0, 0), BEYOND);
        due("more(0, 9)", x.more(0, 9), BEYOND);
        due("more(2, 1)", x.more(2, 1), BEYOND);
        x.clause(0, 8, 0, 0, 0);
        x.clause(0, 1, -2, 0, 0);
        x.compile(0);
        due("more(0, 1)", x.more(0, 1), NO);
        due("more(0, 2)", x.more(0, 2), NO);
        due("more(0, LEAST)", x.more(0, LEAST), BEYOND);
        due("the graph stays", x.root(0) >= 0 ? 1 : 0, 1);
        due("more(0, 3)", x.more(0, 3), 3);
        due("the graph went", x.root(0), MISSING);
        due("more(0, -4)", x.more(0, -4), 4);
        due("more(0, 8)", x.more(0, 8), 5);
        due("more(0, 5)", x.more(0, 5), FULL);
        due("NO ahead of FULL", x.more(0, -8), NO);
        due("lay", x.lay(0, 1), 5);
        due("row(4)", x.row(4), 8);
        due("lay of the first", x.lay(0, 0), 1);
    }

    private static void drop() {
        TruthWalk x = Walks.small();
        due("drop(2)", x.drop(2), BEYOND);
        due("drop(1)", x.drop(1), MISSING);
        due("drop(0)", x.drop(0), 2);
        due("the graph went", x.rows(0), MISSING);
        x.compile(0);
        due("rows without the last", x.rows(0), 8);
        due("drop(0)", x.drop(0), 1);
        due("drop(0)", x.drop(0), 0);
        due("drop(0)", x.drop(0), MISSING);
        due("clause", x.clause(0, 4, 0, 0, 0), 0);
    }

    private static void ask() {
        TruthWalk x = Walks.small();
        due("ask(0, 0)", x.ask(0, 0, true), BEYOND);
        due("ask(0, 5)", x.ask(0, 5, true), BEYOND);
        due("ask(0, -1)", x.ask(0, -1, true), BEYOND);
        due("ask(2, 1)", x.ask(2, 1, true), BEYOND);
        due("not asked, not to be: nothing changes", x.ask(0, 4, false), 0);
        due("the graph stays", x.rows(0), 5);
        due("ask(0, 4)", x.ask(0, 4, true), 0);
        due("the graph went", x.rows(0), MISSING);
        x.compile(0);
        due("4 is chosen first", x.node(0, x.root(0), 1), 4);
        due("ask(0, 4) again", x.ask(0, 4, true), 1);
        due("nothing changed", x.rows(0), 5);
        due("count", x.count(0, 4), 1);
        due("ask(0, 4, false)", x.ask(0, 4, false), 1);
        due("the graph went", x.rows(0), MISSING);
        due("count", x.count(0, 4), 0);
    }

    private static void fix() {
        TruthWalk x = Walks.small();
        due("fix(0, 0)", x.fix(0, 0), BEYOND);
        due("fix(0, 5)", x.fix(0, 5), BEYOND);
        due("fix(0, -5)", x.fix(0, -5), BEYOND);
        due("fix(-1, 1)", x.fix(-1, 1), BEYOND);
        due("fix(0, 1)", x.fix(0, 1), 1);
        due("rows", x.rows(0), 3);
        due("fix(0, 1)", x.fix(0, 1), 0);
        due("fix(0, -1)", x.fix(0, -1), 2);
        due("rows", x.rows(0), 2);
        due("fix(0, 3)", x.fix(0, 3), 1);
        due("rows", x.rows(0), 1);
        due("kth", x.kth(0, 0), 7);
        due("count", x.count(0, 5), 2);
        due("the graph stays as it is", x.count(0, 2), 9);
        due("judge", x.judge(0), 0);
        x.clause(0, 4, 0, 0, 0);
        x.compile(0);
        due("fixed ones stay", x.count(0, 5), 2);
    }

    private static void loose() {
        TruthWalk x = Walks.small();
        due("loose(0, 0)", x.loose(0, 0), BEYOND);
        due("loose(0, -1)", x.loose(0, -1), BEYOND);
        due("loose(0, 5)", x.loose(0, 5), BEYOND);
        due("loose(2, 1)", x.loose(2, 1), BEYOND);
        due("loose(0, 1)", x.loose(0, 1), 0);
        x.fix(0, 1);
        x.fix(0, -4);
        due("rows", x.rows(0), 1);
        due("loose(0, 4)", x.loose(0, 4), 1);
        due("rows", x.rows(0), 3);
        due("loose(0, 4)", x.loose(0, 4), 0);
        due("loose(0, 1)", x.loose(0, 1), 1);
        due("rows", x.rows(0), 5);
    }

    private static void weight() {
        TruthWalk x = Walks.small();
        due("weight(2, 1, 1)", x.weight(2, 1, 1), BEYOND);
        due("weight(0, 0, 1)", x.weight(0, 0, 1), BEYOND);
        due("weight(0, -5, 9)", x.weight(0, -5, 9), BEYOND);
        due("weight(0, 1, 8)", x.weight(0, 1, 8), NO);
        due("weight(0, 1, -1)", x.weight(0, 1, -1), NO);
        due("weight(0, 1, 7)", x.weight(0, 1, 7), 1);
        due("weight(0, 1, 0)", x.weight(0, 1, 0), 7);
        due("weight(0, -1, 2)", x.weight(0, -1, 2), 1);
        due("weight(0, 1, 0)", x.weight(0, 1, 0), 0);
        due("sum", x.sum(0), 4);
        due("the graph stays", x.rows(0), 5);
        due("the other book", x.weight(1, 1, 3), 1);
    }

    private static void count() {
        TruthWalk x = Walks.small();
        x.fix(0, 2);
        due("count(2, 9)", x.count(2, 9), BEYOND);
        due("count(0, -1)", x.count(0, -1), NO);
        due("count(0, 6)", x.count(0, 6), NO);
        due("N", x.count(0, 0), 4);
        due("clauses", x.count(0, 1), 3);
        due("nodes", x.count(0, 2), 9);
        due("asked", x.count(0, 4), 0);
        due("fixed", x.count(0, 5), 1);
        due("pieces met again", x.count(0, 3), 0);
        TruthWalk z = of(6, s(1, 2), s(-1, 3), s(4, 5, 1), s(4, 5, -1));
        z.compile(0);
        due("(4 5) is met with 1 and with its denial", z.count(0, 3), 1);
        z.drop(0);
        due("none without a graph", z.count(0, 3), 0);
        due("none without a graph", z.count(0, 2), 0);
    }

    private static void compile() {
        TruthWalk x = new TruthWalk();
        due("compile(2)", x.compile(2), BEYOND);
        due("compile(-1)", x.compile(-1), BEYOND);
        graphIs("no clause", of(3));
        graphIs("one sign", of(3, s(-2)), "L-2");
        graphIs("signs alone, alike ones once", of(3, s(3), s(-1), s(3)), "L3", "L-1", "B(2 3)");
        graphIs("contrary", of(3, s(2, 3), s(1), s(-1)));
        graphIs("taken on", of(3, s(1), s(-1, 2), s(-2, -3)), "L1", "L2", "L-3", "B(2 3 4)");
        graphIs("alike after taking", of(4, s(-1, 2, 3), s(1), s(3, 2)), "L3", "C2(0 2)", "L1", "B(4 3)");
        graphIs("the least letter", of(3, s(3, 2)), "L3", "C2(0 2)");
        graphIs("the letter in most", of(3, s(3, 1), s(3, 2)), "L1", "L2", "B(2 3)", "C3(0 4)");
        graphIs("both sides alike", of(2, s(1, 2), s(-1, 2)), "L2", "C1(2 2)");
        graphIs("one side never", of(2, s(1, 2), s(1, -2)), "C1(0 1)");
        graphIs("both sides never", of(2, s(1, 2), s(1, -2), s(-1, 2), s(-1, -2)));
        graphIs("lits behind pieces", of(5, s(5), s(1, 2)), "L2", "C1(0 2)", "L5", "B(4 3)");
        graphIs("pieces by first clauses", of(5, s(4, 5), s(1, 2)),
            "L5", "C4(0 2)", "L2", "C1(0 4)", "B(3 5)");
        graphIs("a piece over others", of(6, s(1, 2), s(3, 4), s(2, 5), s(5, 3)),
            "L4", "L5", "B(2 3)", "C3(0 4)", "C3(0 2)", "L1", "B(7 3 6)", "C2(5 8)");
        graphIs("nodes of a list that is never stay", of(4, s(3, 4), s(1, 2), s(1, -2), s(-1, 2), s(-1, -2)),
            "L4", "C3(0 2)");
        graphIs("no lits of a list that is never", of(4, s(4), s(1, 2), s(1, -2), s(-1, 2), s(-1, -2)));
        graphIs("what is behind a piece that is never is not made",
            of(4, s(1, 2), s(1, -2), s(-1, 2), s(-1, -2), s(3, 4)));
        TruthWalk asked = of(3, s(1, 2), s(1, 3));
        asked.ask(0, 2, true);
        asked.ask(0, 3, true);
        graphIs("asked ones first, of these the least", asked,
            "L1", "C3(0 2)", "C2(3 2)");
        TruthWalk otherOrder = of(6, s(1, 4, 5), s(4, 6), s(-1, 4, 5));
        otherOrder.ask(0, 1, true);
        graphIs("the same clauses in another order are another list", otherOrder,
            "L6", "L5", "B(2 3)", "C4(0 4)", "B(3 2)", "C4(0 6)", "C1(5 7)");
        due("not met again", otherOrder.count(0, 3), 0);
        TruthWalk neverAgain = of(5, s(4, 5, 1), s(-1, 4, 5), s(4, -5), s(-4, 5), s(-4, -5));
        neverAgain.ask(0, 1, true);
        graphIs("a piece that is never is met again", neverAgain);
        due("met again", neverAgain.count(0, 3), 1);
        due("root", neverAgain.root(0), 1);
        TruthWalk again = of(5, s(1, 2), s(1, 3), s(4, 5, 1), s(4, 5, -1));
        graphIs("a piece met again is taken as it was", again,
            "L5", "C4(0 2)", "L2", "L3", "B(4 5 3)", "C1(3 6)");
        due("met again", again.count(0, 3), 1);
        graphIs("compiled again", again, "L5", "C4(0 2)", "L2", "L3", "B(4 5 3)", "C1(3 6)");
        due("a bend is gone then", again.bend(0, 7, 0, 0), 3);
        graphIs("compiled again", again, "L5", "C4(0 2)", "L2", "L3", "B(4 5 3)", "C1(3 6)");
        due("met again", again.count(0, 3), 1);
    }

    private static void spent() {
        TruthWalk x = of(12, Walks.JUST_ROOM);
        Walks.askAll(x, 0, Walks.ASKED_OF_LARGE);
        due("clauses", x.count(0, 1), 40);
        due("1500 nodes", x.compile(0), 1500);
        due("root", x.root(0), 1499);
        due("judge", x.judge(0), 0);
        due("rows", x.rows(0), 854);
        due("met again", x.count(0, 3), 16);
        due("node(1500)", x.node(0, 1500, 0), BEYOND);
        TruthWalk y = of(12, Walks.ONE_TOO_MANY);
        Walks.askAll(y, 0, Walks.ASKED_OF_LARGE);
        due("1501 nodes", y.compile(0), SPENT);
        due("no graph", y.root(0), MISSING);
        due("no nodes", y.count(0, 2), 0);
        due("none met again", y.count(0, 3), 0);
        due("clauses stay", y.count(0, 1), 40);
        due("asked stay", y.count(0, 4), 8);
        due("status(SPENT)", y.status(SPENT), 1);
        due("the other book", y.compile(1), 2);
        y.ask(0, 12, false);
        y.drop(0);
        PlainModel model = new PlainModel();
        model.letters(0, 12);
        for (int i = 0; i < 39; i++) {
            model.clause(0, Walks.ONE_TOO_MANY[i]);
        }
        for (int i = 0; i < 7; i++) {
            model.ask(0, Walks.ASKED_OF_LARGE[i], true);
        }
        due("with less it is made", y.compile(0), model.compile(0));
        due("judge", y.judge(0), 0);
        for (int i = 0; i < 400; i++) {
            due("compiled again and again", x.compile(0), 1500);
        }
        due("met again as at first", x.count(0, 3), 16);
    }

    // -1 or 2, -2 or 3 .. -11 or 12, and 1: each letter is taken by the one before.
    private static TruthWalk chainOfTwelve() {
        TruthWalk x = new TruthWalk();
        x.letters(0, 12);
        for (int l = 11; l >= 1; l--) {
            x.clause(0, -l, l + 1, 0, 0);
        }
        x.clause(0, 1, 0, 0, 0);
        return x;
    }

    private static void allTaken() {
        TruthWalk x = chainOfTwelve();
        due("12 lits and a both", x.compile(0), 15);
        due("12 parts", x.node(0, 14, 2), 12);
        for (int j = 0; j < 12; j++) {
            due("part " + j, x.part(0, 14, j), j + 2);
            due("its sign", x.node(0, j + 2, 1), j + 1);
        }
        due("one row", x.rows(0), 1);
        due("which says yes of all", x.next(0, -1), 4095);
        due("judge", x.judge(0), 0);
        x.clause(0, -11, -12, 0, 0);
        due("the last one taken leaves a clause without a sign", x.compile(0), 2);
        due("never", x.root(0), 1);
    }

    private static void root() {
        TruthWalk x = Walks.small();
        due("root(0)", x.root(0), 8);
        due("root(1)", x.root(1), MISSING);
        due("root(2)", x.root(2), BEYOND);
        TruthWalk never = of(2, s(1), s(-1));
        never.compile(0);
        due("never", never.root(0), 1);
        TruthWalk one = of(2, s(1));
        one.compile(0);
        due("one lit", one.root(0), 2);
    }

    private static void node() {
        TruthWalk x = Walks.small();
        int[][] want = {
            {0, 0, 0, 0}, {1, 0, 0, 0}, {2, 4, 0, 8}, {4, 2, 2, 10}, {2, 3, 0, 4},
            {3, 0, 2, 14}, {2, 2, 0, 2}, {3, 0, 2, 10}, {4, 1, 2, 15}};
        for (int node = 0; node < want.length; node++) {
            for (int what = 0; what < 4; what++) {
                due("node(0, " + node + ", " + what + ")", x.node(0, node, what), want[node][what]);
            }
        }
        due("node(2, ..)", x.node(2, 0, 0), BEYOND);
        due("node(1, 99, 9)", x.node(1, 99, 9), MISSING);
        due("node(0, 9, 9)", x.node(0, 9, 9), BEYOND);
        due("node(0, -1, 0)", x.node(0, -1, 0), BEYOND);
        due("node(0, 0, 4)", x.node(0, 0, 4), NO);
        due("node(0, 0, -1)", x.node(0, 0, -1), NO);
        x.bend(0, 5, 1, 0);
        due("letters of a bent one", x.node(0, 5, 3), 4);
        due("letters above a bent one", x.node(0, 8, 3), 15);
        x.bend(0, 8, 1, 2);
        due("letters above a bent one", x.node(0, 8, 3), 13);
        TruthWalk denied = of(12, s(-12));
        denied.compile(0);
        due("a denial is a sign", denied.node(0, 2, 1), -12);
        due("no call of it was refused", denied.status(NO), 0);
        due("its letter", denied.node(0, 2, 3), 2048);
    }

    private static void part() {
        TruthWalk x = Walks.small();
        due("yes", x.part(0, 8, 0), 5);
        due("no", x.part(0, 8, 1), 7);
        due("of a both", x.part(0, 5, 1), 3);
        due("j beyond", x.part(0, 8, 2), BEYOND);
        due("j below", x.part(0, 8, -1), BEYOND);
        due("of true, j beyond", x.part(0, 0, 9), KIND);
        due("of never", x.part(0, 1, 0), KIND);
        due("of a lit", x.part(0, 2, 0), KIND);
        due("node beyond", x.part(0, 9, 0), BEYOND);
        due("node below", x.part(0, -1, 0), BEYOND);
        due("no graph", x.part(1, 9, 0), MISSING);
        due("book", x.part(2, 0, 0), BEYOND);
        due("status(KIND)", x.status(KIND), 3);
    }

    private static void bend() {
        TruthWalk x = Walks.small();
        due("rows", x.rows(0), 5);
        due("book", x.bend(2, 8, 0, 0), BEYOND);
        due("no graph", x.bend(1, 8, 0, 0), MISSING);
        due("node", x.bend(0, 9, 0, 0), BEYOND);
        due("kind", x.bend(0, 2, 9, 9), KIND);
        due("j", x.bend(0, 8, 2, 0), BEYOND);
        due("j", x.bend(0, 8, -1, 0), BEYOND);
        due("itself", x.bend(0, 8, 0, 8), BEYOND);
        due("above", x.bend(0, 5, 0, 6), BEYOND);
        due("below", x.bend(0, 8, 0, -1), BEYOND);
        due("nothing changed", x.rows(0), 5);
        due("yes", x.bend(0, 8, 0, 7), 5);
        due("part", x.part(0, 8, 0), 7);
        due("rows: 2 and 4, whatever 1 and 3 are", x.rows(0), 4);
        due("yes again", x.bend(0, 8, 0, 5), 7);
        due("rows", x.rows(0), 5);
        due("no", x.bend(0, 8, 1, 1), 7);
        due("rows", x.rows(0), 3);
        due("nodes stay", x.count(0, 2), 9);
        due("the root stays", x.root(0), 8);
    }

    private static void judgeAndGuilty() {
        TruthWalk x = Walks.small();
        due("guilty at first", x.guilty(), TruthWalk.NONE);
        due("judge(2)", x.judge(2), BEYOND);
        due("judge(1)", x.judge(1), MISSING);
        due("judge(0)", x.judge(0), 0);
        due("guilty", x.guilty(), TruthWalk.NONE);
        x.fix(0, -1);
        x.fix(0, -2);
        due("fixed ones aside", x.judge(0), 0);
        due("a true part", x.bend(0, 3, 0, 0), 2);
        due("judge: a row that is not whole", x.judge(0), 3);
        due("guilty: the least row: 1, 2, 3 and not 4", x.guilty(), 14);
        due("a never part", x.bend(0, 8, 1, 1), 7);
        due("judge: a whole row that is not said", x.judge(0), 3);
        due("guilty", x.guilty(), 5);
        due("refused judge", x.judge(1), MISSING);
        due("guilty as it was", x.guilty(), 5);

        TruthWalk z = of(3, s(1, 2), s(1, 3));
        z.compile(0);
        // 2 L2, 3 L3, 4 B(2 3), 5 C1(0 4)
        z.bend(0, 4, 0, 3);
        due("both shares", z.judge(0), 1);
        due("guilty", z.guilty(), 4);
        z.bend(0, 4, 0, 0);
        due("true shares nothing", z.judge(0), 3);
        due("guilty: -1 -2 3", z.guilty(), 1);

        // 2 L2, 3 C1(0 2), 4 L4, 5 C3(0 4), 6 B(3 5)
        TruthWalk c = of(4, s(1, 2), s(3, 4));
        c.compile(0);
        c.bend(0, 5, 1, 3);
        due("parts share through a choice", c.judge(0), 1);
        due("guilty", c.guilty(), 6);

        // A node that the root doesn't reach is judged, too.
        TruthWalk g = of(6, s(5, 3), s(5, 4), s(1, 2), s(1, -2), s(-1, 2), s(-1, -2));
        graphIs("a list that is never", g, "L3", "L4", "B(2 3)", "C5(0 4)");
        due("judge", g.judge(0), 0);
        due("bend", g.bend(0, 4, 0, 3), 2);
        due("judge", g.judge(0), 1);
        due("guilty", g.guilty(), 4);
        due("rows", g.rows(0), 0);
    }

    private static void judgeOfChoices() {
        TruthWalk e = of(4, s(1, 2), s(1, 3), s(-1, 4, 2));
        graphIs("choices", e, "L4", "C2(0 2)", "L2", "L3", "B(4 5)", "C1(3 6)");
        due("judge", e.judge(0), 0);
        due("no", e.bend(0, 7, 1, 4), 6);
        due("judge", e.judge(0), 3);
        due("guilty: -1 2 -3 -4", e.guilty(), 4);
        TruthWalk k = of(3, s(1, 2, 3), s(1, 2, -3), s(-1, 2, 3));
        // 1: (2 3). Not 1: (2 3) (2 -3), chosen by 2: true or never.
        graphIs("choices", k, "L3", "C2(0 2)", "C2(0 1)", "C1(3 4)");
        due("a choice below of the same letter", k.bend(0, 4, 1, 3), 1);
        due("judge", k.judge(0), 2);
        due("guilty", k.guilty(), 4);
        due("never", k.bend(0, 4, 1, 1), 3);
        due("judge", k.judge(0), 0);
        due("guilty of none", k.guilty(), TruthWalk.NONE);
        due("in yes too", k.bend(0, 4, 0, 3), 0);
        due("judge", k.judge(0), 2);
        due("guilty", k.guilty(), 4);
        TruthWalk l = of(5, s(1, 2, 3), s(1, 2, -3), s(-1, 2, 3), s(4));
        graphIs("choices in a both", l, "L3", "C2(0 2)", "C2(0 1)", "C1(3 4)", "L4", "B(6 5)");
        l.bend(0, 4, 1, 3);
        due("judge", l.judge(0), 2);
        due("guilty", l.guilty(), 4);
        l.bend(0, 7, 0, 5);
        due("a both goes ahead of a choice of a lesser number", l.judge(0), 1);
        due("guilty", l.guilty(), 7);
    }

    private static void rowsAndSays() {
        TruthWalk x = Walks.small();
        due("rows(0)", x.rows(0), 5);
        due("rows(1)", x.rows(1), MISSING);
        due("rows(2)", x.rows(2), BEYOND);
        due("says(2, 99)", x.says(2, 99), BEYOND);
        due("says(1, 99)", x.says(1, 999), MISSING);
        due("says(0, 16)", x.says(0, 16), BEYOND);
        due("says(0, -1)", x.says(0, -1), BEYOND);
        int[] whole = {5, 7, 10, 11, 15};
        for (int row = 0, at = 0; row < 16; row++) {
            boolean is = at < whole.length && whole[at] == row;
            at += is ? 1 : 0;
            due("says(0, " + row + ")", x.says(0, row), is ? 1 : 0);
        }
        x.fix(0, -4);
        due("fixed ones hold, too", x.says(0, 15), 0);
        due("fixed ones hold, too", x.says(0, 10), 1);
        TruthWalk wide = of(12, s(12));
        wide.compile(0);
        due("rows of 12 letters", wide.rows(0), 2048);
        due("letter 12 is bit 0", wide.says(0, 4095), 1);
        due("letter 12 is bit 0", wide.says(0, 4094), 0);
        TruthWalk one = of(1);
        one.compile(0);
        due("rows of one letter", one.rows(0), 2);
    }

    private static void sumAndWeigh() {
        TruthWalk x = Walks.small();
        due("sum(2)", x.sum(2), 0);
        due("sum(1)", x.sum(1), 0);
        due("status(BEYOND)", x.status(BEYOND), 1);
        due("status(MISSING)", x.status(MISSING), 1);
        due("weigh(2, 0)", x.weigh(2, 0), 0);
        due("weigh(0, 16)", x.weigh(0, 16), 0);
        due("weigh(0, -1)", x.weigh(0, -1), 0);
        due("status(BEYOND)", x.status(BEYOND), 4);
        due("without a graph", x.weigh(1, 255), 1);
        x.weight(0, 2, 3);
        x.weight(0, -2, 5);
        x.weight(0, 4, 2);
        // 5: 0101, 7: 0111, 10: 1010, 11: 1011, 15: 1111.
        due("weigh(0, 5)", x.weigh(0, 5), 6);
        due("weigh(0, 10)", x.weigh(0, 10), 5);
        due("weigh(0, 11)", x.weigh(0, 11), 10);
        due("weigh(0, 0), said or not", x.weigh(0, 0), 5);
        due("sum", x.sum(0), 6 + 6 + 5 + 10 + 6);
        x.fix(0, -2);
        due("sum of fixed", x.sum(0), 15);
        due("weigh, fixed or not", x.weigh(0, 5), 6);
        TruthWalk wide = of(12);
        wide.compile(0);
        for (int l = 1; l <= 12; l++) {
            wide.weight(0, l, 7);
            wide.weight(0, -l, 7);
        }
        due("the heaviest row", wide.weigh(0, 1), 13841287201L);
        due("the greatest sum", wide.sum(0), 4096 * 13841287201L);
    }

    private static void chance() {
        TruthWalk x = Walks.small();
        due("book", x.chance(2, 1, true), 0);
        due("sign", x.chance(0, 5, true), 0);
        due("sign ahead of the graph", x.chance(1, 0, true), 0);
        due("status(BEYOND)", x.status(BEYOND), 3);
        due("no graph", x.chance(1, 1, true), 0);
        due("status(MISSING)", x.status(MISSING), 1);
        due("upper", x.chance(0, 1, false), 3);
        due("lower", x.chance(0, 1, true), 5);
        due("upper of the denial", x.chance(0, -1, false), 2);
        x.weight(0, 4, 4);
        x.weight(0, -4, 2);
        // 5, 7, 11, 15 weigh 4, 10 weighs 2.
        due("lowest terms", x.chance(0, -4, false), 1);
        due("lowest terms", x.chance(0, -4, true), 9);
        x.fix(0, 1);
        due("of fixed", x.chance(0, -4, true), 5);
        due("none: 0", x.chance(0, -1, false), 0);
        due("of 1", x.chance(0, -1, true), 1);
        due("all: 1", x.chance(0, 1, false), 1);
        due("of 1", x.chance(0, 1, true), 1);
        due("status(NO)", x.status(NO), 0);
        x.weight(0, 1, 0);
        due("no sum", x.chance(0, 1, true), 0);
        due("status(NO)", x.status(NO), 1);
        due("rows of no weight are rows", x.rows(0), 3);
    }

    private static void sure() {
        TruthWalk x = Walks.small();
        due("book", x.sure(2, 1), BEYOND);
        due("sign ahead of the graph", x.sure(1, 9), BEYOND);
        due("sign", x.sure(0, 0), BEYOND);
        due("no graph", x.sure(1, 8), MISSING);
        due("some", x.sure(0, 1), 0);
        due("some", x.sure(0, -1), 0);
        x.fix(0, -1);
        due("all", x.sure(0, 2), 1);
        due("none", x.sure(0, -4), 2);
        x.fix(0, -4);
        due("no rows", x.sure(0, 2), 3);
    }

    private static void kth() {
        TruthWalk x = Walks.small();
        int[] whole = {5, 7, 10, 11, 15};
        for (int k = 0; k < whole.length; k++) {
            due("kth", x.kth(0, k), whole[k]);
        }
        due("as many as there are", x.kth(0, 5), NO);
        due("far more", x.kth(0, GREATEST), NO);
        due("below", x.kth(0, -1), BELOW);
        due("no graph, below", x.kth(1, -1), MISSING);
        due("book", x.kth(2, -1), BEYOND);
        x.fix(0, 1);
        due("fixed", x.kth(0, 0), 10);
        due("status(BELOW)", x.status(BELOW), 1);
        TruthWalk wide = of(12, s(-1));
        wide.compile(0);
        due("kth of many", wide.kth(0, 2047), 2047);
        due("kth of many", wide.kth(0, 2048), NO);
    }

    private static void rank() {
        TruthWalk x = Walks.small();
        int[] below = {0, 0, 0, 0, 0, 0, 1, 1, 2, 2, 2, 3, 4, 4, 4, 4, 5};
        for (int row = 0; row <= 16; row++) {
            due("rank(0, " + row + ")", x.rank(0, row), below[row]);
        }
        due("above", x.rank(0, 17), BEYOND);
        due("below", x.rank(0, -1), BEYOND);
        due("no graph", x.rank(1, -1), MISSING);
        due("book", x.rank(2, 0), BEYOND);
        x.fix(0, 4);
        due("fixed", x.rank(0, 16), 4);
        for (int n = 1; n <= 12; n++) {
            TruthWalk all = of(n);
            all.compile(0);
            due("all of " + n, all.rank(0, 1 << n), 1 << n);
            due("all but one of " + n, all.rank(0, (1 << n) - 1), (1 << n) - 1);
            due("beyond " + n, all.rank(0, (1 << n) + 1), BEYOND);
        }
    }

    private static void next() {
        TruthWalk x = Walks.small();
        int[] above = {5, 5, 5, 5, 5, 5, 7, 7, 10, 10, 10, 11, 15, 15, 15, 15, TruthWalk.NONE};
        for (int row = -1; row < 16; row++) {
            due("next(0, " + row + ")", x.next(0, row), above[row + 1]);
        }
        due("none is no refusal", x.status(MISSING), 0);
        due("above", x.next(0, 16), BEYOND);
        due("below", x.next(0, -2), BEYOND);
        due("greatest", x.next(0, GREATEST), BEYOND);
        due("no graph", x.next(1, 999), MISSING);
        due("book", x.next(2, 0), BEYOND);
        x.fix(0, 1);
        due("fixed", x.next(0, -1), 10);
    }

    private static void most() {
        TruthWalk x = Walks.small();
        due("all alike: the least", x.most(0, false), 5);
        due("all alike: the least", x.most(0, true), 5);
        x.weight(0, 1, 2);
        due("greatest", x.most(0, false), 10);
        x.weight(0, -1, 3);
        due("least", x.most(0, true), 10);
        x.weight(0, 4, 0);
        due("a weight of 0", x.most(0, true), 5);
        due("greatest", x.most(0, false), 10);
        x.fix(0, 4);
        due("all 0", x.most(0, false), 5);
        due("no graph", x.most(1, true), MISSING);
        due("book", x.most(2, true), BEYOND);
        x.fix(0, -1);
        x.fix(0, -2);
        due("no rows", x.most(0, true), NO);
    }

    private static void asked() {
        TruthWalk x = Walks.small();
        due("none asked", x.asked(0), 1);
        due("no graph", x.asked(1), MISSING);
        due("book", x.asked(2), BEYOND);
        x.ask(0, 1, true);
        x.ask(0, 3, true);
        x.compile(0);
        // 1, 3 of 5, 7, 10, 11, 15: 00, 01, 11.
        due("1 and 3", x.asked(0), 3);
        x.fix(0, 4);
        x.fix(0, 3);
        due("fixed", x.asked(0), 2);
        x.fix(0, -2);
        x.fix(0, -1);
        due("no rows", x.asked(0), 0);
        TruthWalk wide = of(12, s(11, 12));
        wide.ask(0, 11, true);
        wide.ask(0, 12, true);
        wide.ask(0, 1, true);
        wide.compile(0);
        due("of 12 letters", wide.asked(0), 6);
    }

    private static void less() {
        TruthWalk x = Walks.small();
        due("1 is missing", x.less(false), MISSING);
        x.compile(1);
        due("N", x.less(false), NO);
        x.letters(1, 4);
        due("missing ahead of N", x.less(true), MISSING);
        x.clause(1, 1, 0, 0, 0);
        x.compile(1);
        due("0 without 1: 5, 7", x.less(false), 2);
        due("1 without 0: 8, 9, 12, 13, 14", x.less(true), 5);
        x.fix(0, 4);
        due("fixed in 0", x.less(false), 2);
        due("fixed in 0", x.less(true), 6);
        x.fix(1, -3);
        due("fixed in 1", x.less(false), 4);
        due("fixed in 1", x.less(true), 4);
        x.drop(0);
        due("0 is missing", x.less(false), MISSING);
    }

    private static void join() {
        TruthWalk x = Walks.small();
        due("N", x.join(), NO);
        x.letters(1, 4);
        due("none comes", x.join(), 3);
        due("the graph stays then", x.rows(0), 5);
        x.clause(1, -4, 3, 0, 0);
        x.clause(1, 2, 0, 0, 0);
        x.compile(1);
        due("two come", x.join(), 5);
        due("the graph of 0 went", x.rows(0), MISSING);
        due("the graph of 1 stays", x.rows(1), 6);
        due("1 has its own", x.count(1, 1), 2);
        due("behind its own", x.lay(0, 3), 2);
        due("by letters", x.row(0), 3);
        due("by letters", x.row(1), -4);
        due("the last", x.lay(0, 4), 1);
        due("the last grows", x.more(0, 1), 2);
        due("in 0 alone", x.lay(1, 1), 1);
        for (int i = 0; i < 34; i++) {
            x.clause(0, 1, 0, 0, 0);
        }
        x.compile(0);
        due("39 and 2", x.join(), FULL);
        due("none came", x.count(0, 1), 39);
        due("the graph stays", x.root(0) >= 0 ? 1 : 0, 1);
        x.drop(0);
        due("38 and 2", x.join(), 40);
        x.letters(1, 5);
        due("N ahead of FULL", x.join(), NO);
    }

    private static void layAndTear() {
        TruthWalk x = new TruthWalk();
        x.clause(0, 7, -2, 5, -8);
        x.more(0, -1);
        due("book", x.lay(2, 0), BEYOND);
        due("clause", x.lay(0, 1), BEYOND);
        due("clause", x.lay(0, -1), BEYOND);
        due("clause", x.lay(1, 0), BEYOND);
        due("refused: still missing", x.tear(), 0);
        due("lay", x.lay(0, 0), 5);
        int[] want = {-1, -2, 5, 7, -8};
        for (int i = 0; i < 5; i++) {
            due("row(" + i + ")", x.row(i), want[i]);
        }
        due("a sign is no refusal", x.status(MISSING), 0);
        x.letters(0, 3);
        due("it stays", x.row(4), -8);
        due("tear", x.tear(), 1);
        due("tear", x.tear(), 0);
        due("row", x.row(0), 0);
        due("status(MISSING)", x.status(MISSING), 1);
    }

    private static void row() {
        TruthWalk x = new TruthWalk();
        due("missing", x.row(-1), 0);
        due("status(MISSING)", x.status(MISSING), 1);
        x.clause(0, 4, 3, 0, 0);
        x.lay(0, 0);
        due("row(0)", x.row(0), 3);
        due("row(1)", x.row(1), 4);
        due("row(2)", x.row(2), 0);
        due("row(-1)", x.row(-1), 0);
        due("row(LEAST)", x.row(LEAST), 0);
        due("status(BEYOND)", x.status(BEYOND), 3);
    }

    private static void copy() {
        TruthWalk x = new TruthWalk();
        due("missing", x.copy(0, 0, -1), MISSING);
        x.clause(0, 1, 2, 3, 4);
        x.more(0, 5);
        x.lay(0, 0);
        due("below", x.copy(-1, 0, -1), BELOW);
        due("i", x.copy(-1, 0, 1), COPY);
        due("j", x.copy(0, -1, 1), COPY);
        due("i + n", x.copy(3, 0, 3), COPY);
        due("j + n", x.copy(0, 3, 3), COPY);
        due("i + n wraps", x.copy(GREATEST, 0, 1), COPY);
        due("j + n wraps", x.copy(0, GREATEST, GREATEST), COPY);
        due("n", x.copy(0, 0, 6), COPY);
        due("none at the end", x.copy(5, 5, 0), 0);
        due("none beyond the end", x.copy(6, 0, 0), COPY);
        due("upwards", x.copy(0, 1, 4), 4);
        int[] up = {1, 1, 2, 3, 4};
        for (int i = 0; i < 5; i++) {
            due("as they were, row(" + i + ")", x.row(i), up[i]);
        }
        due("downwards", x.copy(2, 1, 3), 3);
        int[] down = {1, 2, 3, 4, 4};
        for (int i = 0; i < 5; i++) {
            due("as they were, row(" + i + ")", x.row(i), down[i]);
        }
        due("status(COPY)", x.status(COPY), 8);
        x.lay(0, 0);
        due("the clause is as it was", x.row(1), 2);
    }

    private static void give() {
        TruthWalk x = new TruthWalk();
        due("book", x.give(2), BEYOND);
        due("missing", x.give(0), MISSING);
        x.clause(0, 8, -3, 2, 0);
        x.lay(0, 0);
        x.letters(1, 7);
        due("a sign beyond", x.give(1), BEYOND);
        x.compile(0);
        due("its number", x.give(0), 1);
        due("the graph went", x.rows(0), MISSING);
        due("lay", x.lay(0, 1), 3);
        x.copy(0, 1, 2);
        due("the same counts once", x.give(0), 2);
        due("lay", x.lay(0, 2), 2);
        due("row(0)", x.row(0), 2);
        due("row(1)", x.row(1), -3);
        due("into the other book", x.give(1), 0);
        for (int i = 3; i < 40; i++) {
            due("give", x.give(0), i);
        }
        due("full", x.give(0), FULL);
        x.letters(1, 2);
        due("a sign beyond", x.give(1), BEYOND);
        x.tear();
        due("missing ahead of full", x.give(0), MISSING);
    }

    private static void status() {
        TruthWalk x = new TruthWalk();
        for (int by = -9; by <= -2; by++) {
            due("status(" + by + ") at first", x.status(by), 0);
        }
        due("status(-1)", x.status(-1), NO);
        due("status(-10)", x.status(-10), NO);
        due("status(0)", x.status(0), NO);
        due("status(LEAST)", x.status(LEAST), NO);
        due("status(GREATEST)", x.status(GREATEST), NO);
        due("status(NO) counts them", x.status(NO), 5);
        due("status(NO) counts not itself", x.status(NO), 5);
        x.letters(0, 3);
        x.clause(0, 1, -2, 0, 0);
        x.rows(0);
        x.sum(0);
        x.chance(0, 1, false);
        x.row(0);
        due("MISSING", x.status(MISSING), 4);
        x.weigh(0, 8);
        x.fix(0, 4);
        due("BEYOND", x.status(BEYOND), 2);
        x.compile(0);
        x.kth(0, -1);
        due("BELOW", x.status(BELOW), 1);
        x.part(0, 0, 0);
        due("KIND", x.status(KIND), 1);
        x.lay(0, 0);
        x.copy(0, 0, 3);
        due("COPY", x.status(COPY), 1);
        x.more(0, 3);
        x.next(0, 7);
        due("a sign of -2 is no refusal", x.lay(0, 0), 3);
        due("row(1)", x.row(1), -2);
        due("MISSING with next", x.status(MISSING), 5);
        due("FULL", x.status(FULL), 0);
        due("SPENT", x.status(SPENT), 0);
    }

    private static void promise(String of, Runnable test) {
        Due.about(of);
        test.run();
    }

    public static void main(String[] args) {
        promise("1 a new object", PromisesTest::newObject);
        promise("2 letters", PromisesTest::letters);
        promise("3 clause", PromisesTest::clause);
        promise("4 more", PromisesTest::more);
        promise("5 drop", PromisesTest::drop);
        promise("6 ask", PromisesTest::ask);
        promise("7 fix", PromisesTest::fix);
        promise("8 loose", PromisesTest::loose);
        promise("9 weight", PromisesTest::weight);
        promise("10 count", PromisesTest::count);
        promise("11 compile", PromisesTest::compile);
        promise("11 compile, SPENT", PromisesTest::spent);
        promise("11 compile, all taken", PromisesTest::allTaken);
        promise("12 root", PromisesTest::root);
        promise("13 node", PromisesTest::node);
        promise("14 part", PromisesTest::part);
        promise("15 bend", PromisesTest::bend);
        promise("16, 17 judge, guilty", PromisesTest::judgeAndGuilty);
        promise("16, 17 judge, guilty of choices", PromisesTest::judgeOfChoices);
        promise("18, 19 rows, says", PromisesTest::rowsAndSays);
        promise("20, 27 sum, weigh", PromisesTest::sumAndWeigh);
        promise("21 chance", PromisesTest::chance);
        promise("22 sure", PromisesTest::sure);
        promise("23 kth", PromisesTest::kth);
        promise("24 rank", PromisesTest::rank);
        promise("25 next", PromisesTest::next);
        promise("26 most", PromisesTest::most);
        promise("28 asked", PromisesTest::asked);
        promise("29 less", PromisesTest::less);
        promise("30 join", PromisesTest::join);
        promise("31, 32 lay, tear", PromisesTest::layAndTear);
        promise("33 row", PromisesTest::row);
        promise("34 copy", PromisesTest::copy);
        promise("35 give", PromisesTest::give);
        promise("36 status", PromisesTest::status);
        Due.end("PromisesTest");
    }
}
