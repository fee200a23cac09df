import java.util.ArrayList;
import java.util.List;

/**
 * All that can be asked of an object, as one list of answers: two objects of one state give the
 * same list. Asking changes the object, so that it is of no use afterwards.
 */
final class Probe {
    // An object is used for at most 512 calls; what made it takes some of them.
    private static final int MOST_ANSWERS = 400;
    private static final int MOST_NODES_ASKED = 12;

    private final TruthWalk x;
    private final List<Long> answers = new ArrayList<>();

    private Probe(TruthWalk x) {
        this.x = x;
    }

    static List<Long> of(TruthWalk x) {
        Probe probe = new Probe(x);
        probe.theRow();
        for (int book = 0; book < 2; book++) {
            probe.counts(book);
            probe.graph(book);
            probe.told(book);
        }
        for (int book = 0; book < 2; book++) {
            probe.clauses(book);
            probe.signs(book);
        }
        Due.holds("a probe keeps within its calls", probe.answers.size() <= MOST_ANSWERS);
        return probe.answers;
    }

    private long add(long answer) {
        answers.add(answer);
        return answer;
    }

    private void theRow() {
        add(x.guilty());
        for (int i = 0; i < 6; i++) {
            add(x.row(i));
        }
        add(x.tear());
    }

    private void counts(int book) {
        for (int what = 0; what < 6; what++) {
            add(x.count(book, what));
        }
    }

    private void graph(int book) {
        add(x.root(book));
        int nodes = Math.min(MOST_NODES_ASKED, x.count(book, 2));
        for (int node = 2; node < nodes; node++) {
            for (int what = 0; what < 4; what++) {
                add(x.node(book, node, what));
            }
            for (int j = 0; j < x.node(book, node, 2); j++) {
                add(x.part(book, node, j));
            }
        }
        add(x.judge(book));
        add(x.guilty());
    }

    private void told(int book) {
        add(x.rows(book));
        add(x.sum(book));
        add(x.asked(book));
        add(x.most(book, false));
        int row = -1;
        for (int i = 0; i < 10 && row >= -1; i++) {
            row = (int) add(x.next(book, row));
            if (row == -1) {
                return;
            }
        }
    }

    private void clauses(int book) {
        int clauses = x.count(book, 1);
        for (int i = 0; i < clauses; i++) {
            int size = (int) add(x.lay(book, i));
            for (int j = 0; j < size; j++) {
                add(x.row(j));
            }
        }
    }

    private void signs(int book) {
        int n = x.count(book, 0);
        for (int letter = 1; letter <= n; letter++) {
            add(x.weight(book, letter, 1));
            add(x.weight(book, -letter, 1));
            add(x.fix(book, letter));
            add(x.ask(book, letter, true));
        }
    }
}
