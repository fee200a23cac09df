import java.util.ArrayList;
import java.util.Arrays;
import java.util.HashMap;
import java.util.HashSet;
import java.util.LinkedHashSet;
import java.util.List;
import java.util.Map;
import java.util.Set;
import java.util.TreeMap;
import java.util.TreeSet;

/**
 * The document once more, as plainly as it can be written: sets of signs, lists of sets, and each
 * row tested by itself. It knows nothing of how TruthWalk holds its state.
 */
final class PlainModel {
    static final class Spent extends RuntimeException {
        private static final long serialVersionUID = 1L;
    }

    static final class Node {
        final int kind;
        final int name;
        final List<Integer> parts = new ArrayList<>();

        Node(int kind, int name) {
            this.kind = kind;
            this.name = name;
        }
    }

    static final class Book {
        int n = 8;
        List<Set<Integer>> clauses = new ArrayList<>();
        Set<Integer> asked = new TreeSet<>();
        Set<Integer> fixed = new TreeSet<>();
        Map<Integer, Integer> weights = new TreeMap<>();
        List<Node> graph = null;
        int root;
        int again;
        List<Boolean> saidOfRows = null;

        boolean sign(int s) {
            return s != 0 && Math.abs((long) s) <= n;
        }

        boolean letter(int l) {
            return l >= 1 && l <= n;
        }

        boolean holds(int sign, int row) {
            boolean yes = (row >> (n - Math.abs(sign))) % 2 == 1;
            return yes == (sign > 0);
        }

        long weigh(int row) {
            long w = 1;
            for (int l = 1; l <= n; l++) {
                w *= weights.getOrDefault(holds(l, row) ? l : -l, 1);
            }
            return w;
        }

        boolean whole(int row) {
            for (Set<Integer> c : clauses) {
                boolean any = false;
                for (int s : c) {
                    any |= holds(s, row);
                }
                if (!any) {
                    return false;
                }
            }
            return true;
        }

        boolean said(int row) {
            if (saidOfRows == null) {
                saidOfRows = new ArrayList<>();
                for (int r = 0; r < 1 << n; r++) {
                    saidOfRows.add(node(root, r));
                }
            }
            return saidOfRows.get(row);
        }

        boolean node(int at, int row) {
            Node x = graph.get(at);
            if (x.kind == 0) {
                return true;
            }
            if (x.kind == 1) {
                return false;
            }
            if (x.kind == 2) {
                return holds(x.name, row);
            }
            if (x.kind == 4) {
                return node(x.parts.get(holds(x.name, row) ? 0 : 1), row);
            }
            for (int p : x.parts) {
                if (!node(p, row)) {
                    return false;
                }
            }
            return true;
        }

        List<Integer> told() {
            List<Integer> rows = new ArrayList<>();
            for (int r = 0; r < 1 << n; r++) {
                boolean ok = true;
                for (int s : fixed) {
                    ok &= holds(s, r);
                }
                if (ok && said(r)) {
                    rows.add(r);
                }
            }
            return rows;
        }

        Set<Integer> letters(int at) {
            return letters(at, new HashMap<>());
        }

        private Set<Integer> letters(int at, Map<Integer, Set<Integer>> known) {
            if (known.containsKey(at)) {
                return known.get(at);
            }
            Set<Integer> all = new TreeSet<>();
            Node x = graph.get(at);
            if (x.name != 0) {
                all.add(Math.abs(x.name));
            }
            for (int p : x.parts) {
                all.addAll(letters(p, known));
            }
            known.put(at, all);
            return all;
        }

        // ---- to compile

        private Map<List<Set<Integer>>, Integer> met;
        private Map<Integer, Integer> lits;

        void compile() {
            graph = new ArrayList<>();
            saidOfRows = null;
            met = new HashMap<>();
            lits = new HashMap<>();
            again = 0;
            come(new Node(0, 0));
            come(new Node(1, 0));
            try {
                root = make(clauses);
            } catch (Spent s) {
                graph = null;
            }
        }

        private int come(Node x) {
            if (graph.size() == 1500) {
                throw new Spent();
            }
            graph.add(x);
            return graph.size() - 1;
        }

        private static List<Set<Integer>> taken(List<Set<Integer>> list, int sign) {
            Set<Set<Integer>> left = new LinkedHashSet<>();
            for (Set<Integer> c : list) {
                if (!c.contains(sign)) {
                    Set<Integer> less = new TreeSet<>(c);
                    less.remove(-sign);
                    left.add(less);
                }
            }
            return new ArrayList<>(left);
        }

        private static Set<Integer> lettersOf(Set<Integer> clause) {
            Set<Integer> all = new TreeSet<>();
            for (int s : clause) {
                all.add(Math.abs(s));
            }
            return all;
        }

        private int make(List<Set<Integer>> given) {
            List<Set<Integer>> list = new ArrayList<>(new LinkedHashSet<>(given));
            List<Integer> signs = new ArrayList<>();
            while (true) {
                if (list.contains(new TreeSet<Integer>())) {
                    return 1;
                }
                Integer lone = null;
                for (Set<Integer> c : list) {
                    if (c.size() == 1 && lone == null) {
                        lone = c.iterator().next();
                    }
                }
                if (lone == null) {
                    break;
                }
                signs.add(lone);
                list = taken(list, lone);
            }
            List<Integer> nodes = new ArrayList<>();
            for (List<Set<Integer>> piece : pieces(list)) {
                int x = piece(piece);
                if (x == 1) {
                    return 1;
                }
                nodes.add(x);
            }
            List<Integer> all = new ArrayList<>();
            for (int s : signs) {
                if (!lits.containsKey(s)) {
                    lits.put(s, come(new Node(2, s)));
                }
                all.add(lits.get(s));
            }
            all.addAll(nodes);
            if (all.isEmpty()) {
                return 0;
            }
            if (all.size() == 1) {
                return all.get(0);
            }
            Node both = new Node(3, 0);
            both.parts.addAll(all);
            return come(both);
        }

        private static List<List<Set<Integer>>> pieces(List<Set<Integer>> list) {
            int[] group = new int[list.size()];
            for (int i = 0; i < group.length; i++) {
                group[i] = i;
            }
            for (int round = 0; round < list.size(); round++) {
                for (int i = 0; i < group.length; i++) {
                    for (int j = 0; j < group.length; j++) {
                        Set<Integer> shared = lettersOf(list.get(i));
                        shared.retainAll(lettersOf(list.get(j)));
                        if (!shared.isEmpty()) {
                            group[i] = group[j] = Math.min(group[i], group[j]);
                        }
                    }
                }
            }
            Map<Integer, List<Set<Integer>>> found = new TreeMap<>();
            for (int i = 0; i < group.length; i++) {
                found.computeIfAbsent(group[i], k -> new ArrayList<>()).add(list.get(i));
            }
            return new ArrayList<>(found.values());
        }

        private int piece(List<Set<Integer>> list) {
            if (met.containsKey(list)) {
                again++;
                return met.get(list);
            }
            Set<Integer> letters = new TreeSet<>();
            for (Set<Integer> c : list) {
                letters.addAll(lettersOf(c));
            }
            Set<Integer> first = new TreeSet<>(letters);
            first.retainAll(asked);
            int best = 0;
            long most = 0;
            for (int l : first.isEmpty() ? letters : first) {
                long in = list.stream().filter(c -> lettersOf(c).contains(l)).count();
                if (in > most) {
                    most = in;
                    best = l;
                }
            }
            int yes = make(taken(list, best));
            int no = make(taken(list, -best));
            int node = 1;
            if (yes != 1 || no != 1) {
                Node choice = new Node(4, best);
                choice.parts.add(yes);
                choice.parts.add(no);
                node = come(choice);
            }
            met.put(list, node);
            return node;
        }
    }

    final Book[] books = {new Book(), new Book()};
    final int[] refused = new int[10];
    List<Integer> theRow = null;
    int guilty = -1;

    private int no(int by) {
        refused[-by]++;
        return by;
    }

    private Book book(int b) {
        return b == 0 || b == 1 ? books[b] : null;
    }

    int letters(int b, int n) {
        if (book(b) == null) {
            return no(-3);
        }
        if (n < 1 || n > 12) {
            return no(-7);
        }
        int before = books[b].n;
        books[b] = new Book();
        books[b].n = n;
        return before;
    }

    private int put(Book k, List<Integer> signs) {
        Set<Integer> set = new TreeSet<>(signs);
        boolean bad = set.isEmpty();
        for (int s : set) {
            bad |= set.contains(-s);
        }
        if (bad) {
            return no(-7);
        }
        if (k.clauses.size() == 40) {
            return no(-8);
        }
        k.clauses.add(set);
        k.graph = null;
        return k.clauses.size() - 1;
    }

    int clause(int b, int... given) {
        if (book(b) == null) {
            return no(-3);
        }
        List<Integer> signs = new ArrayList<>();
        for (int s : given) {
            if (s != 0) {
                if (!book(b).sign(s)) {
                    return no(-3);
                }
                signs.add(s);
            }
        }
        return put(book(b), signs);
    }

    int more(int b, int s) {
        if (book(b) == null || !book(b).sign(s)) {
            return no(-3);
        }
        Book k = book(b);
        if (k.clauses.isEmpty()) {
            return no(-2);
        }
        Set<Integer> last = k.clauses.get(k.clauses.size() - 1);
        if (last.contains(s) || last.contains(-s)) {
            return no(-7);
        }
        if (last.size() == 5) {
            return no(-8);
        }
        // A joined clause stands in both books: it must not grow in the other one.
        last = new TreeSet<>(last);
        last.add(s);
        k.clauses.set(k.clauses.size() - 1, last);
        k.graph = null;
        return last.size();
    }

    int drop(int b) {
        if (book(b) == null) {
            return no(-3);
        }
        Book k = book(b);
        if (k.clauses.isEmpty()) {
            return no(-2);
        }
        k.clauses.remove(k.clauses.size() - 1);
        k.graph = null;
        return k.clauses.size();
    }

    int ask(int b, int l, boolean is) {
        if (book(b) == null || !book(b).letter(l)) {
            return no(-3);
        }
        Book k = book(b);
        boolean was = k.asked.contains(l);
        if (is && k.asked.add(l) || !is && k.asked.remove(l)) {
            k.graph = null;
        }
        return was ? 1 : 0;
    }

    int fix(int b, int s) {
        if (book(b) == null || !book(b).sign(s)) {
            return no(-3);
        }
        if (!book(b).fixed.add(s)) {
            return 0;
        }
        return book(b).fixed.remove(-s) ? 2 : 1;
    }

    int loose(int b, int l) {
        if (book(b) == null || !book(b).letter(l)) {
            return no(-3);
        }
        return book(b).fixed.removeAll(Arrays.asList(l, -l)) ? 1 : 0;
    }

    int weight(int b, int s, int w) {
        if (book(b) == null || !book(b).sign(s)) {
            return no(-3);
        }
        if (w < 0 || w > 7) {
            return no(-7);
        }
        Integer before = book(b).weights.put(s, w);
        return before == null ? 1 : before;
    }

    int count(int b, int what) {
        if (book(b) == null) {
            return no(-3);
        }
        Book k = book(b);
        if (what < 0 || what > 5) {
            return no(-7);
        }
        int[] all = {k.n, k.clauses.size(), k.graph == null ? 0 : k.graph.size(),
            k.graph == null ? 0 : k.again, k.asked.size(), k.fixed.size()};
        return all[what];
    }

    int compile(int b) {
        if (book(b) == null) {
            return no(-3);
        }
        book(b).compile();
        return book(b).graph == null ? no(-9) : book(b).graph.size();
    }

    private int lack(int b) {
        if (book(b) == null) {
            return -3;
        }
        return book(b).graph == null ? -2 : 0;
    }

    int root(int b) {
        return lack(b) != 0 ? no(lack(b)) : book(b).root;
    }

    private boolean outside(int b, int x) {
        return x < 0 || x >= book(b).graph.size();
    }

    int node(int b, int x, int what) {
        if (lack(b) != 0) {
            return no(lack(b));
        }
        if (outside(b, x)) {
            return no(-3);
        }
        Node node = book(b).graph.get(x);
        switch (what) {
            case 0:
                return node.kind;
            case 1:
                return node.name;
            case 2:
                return node.parts.size();
            case 3:
                int bits = 0;
                for (int l : book(b).letters(x)) {
                    bits += 1 << (l - 1);
                }
                return bits;
            default:
                return no(-7);
        }
    }

    int part(int b, int x, int j) {
        if (lack(b) != 0) {
            return no(lack(b));
        }
        if (outside(b, x)) {
            return no(-3);
        }
        List<Integer> parts = book(b).graph.get(x).parts;
        if (parts.isEmpty()) {
            return no(-5);
        }
        return j < 0 || j >= parts.size() ? no(-3) : parts.get(j);
    }

    int bend(int b, int x, int j, int other) {
        if (lack(b) != 0) {
            return no(lack(b));
        }
        if (outside(b, x)) {
            return no(-3);
        }
        List<Integer> parts = book(b).graph.get(x).parts;
        if (parts.isEmpty()) {
            return no(-5);
        }
        if (j < 0 || j >= parts.size() || other < 0 || other >= x) {
            return no(-3);
        }
        book(b).saidOfRows = null;
        return parts.set(j, other);
    }

    int judge(int b) {
        if (lack(b) != 0) {
            return no(lack(b));
        }
        Book k = book(b);
        Map<Integer, Set<Integer>> known = new HashMap<>();
        for (int pass = 1; pass <= 2; pass++) {
            for (int x = 0; x < k.graph.size(); x++) {
                Node node = k.graph.get(x);
                List<Integer> all = new ArrayList<>();
                for (int p : node.parts) {
                    all.addAll(k.letters(p, known));
                }
                boolean bad = pass == 1
                    ? node.kind == 3 && new HashSet<>(all).size() < all.size()
                    : node.kind == 4 && all.contains(node.name);
                if (bad) {
                    guilty = x;
                    return pass;
                }
            }
        }
        for (int r = 0; r < 1 << k.n; r++) {
            if (k.said(r) != k.whole(r)) {
                guilty = r;
                return 3;
            }
        }
        guilty = -1;
        return 0;
    }

    int rows(int b) {
        return lack(b) != 0 ? no(lack(b)) : book(b).told().size();
    }

    int says(int b, int r) {
        if (lack(b) != 0) {
            return no(lack(b));
        }
        if (r < 0 || r >= 1 << book(b).n) {
            return no(-3);
        }
        return book(b).told().contains(r) ? 1 : 0;
    }

    long sum(int b) {
        if (lack(b) != 0) {
            no(lack(b));
            return 0;
        }
        long all = 0;
        for (int r : book(b).told()) {
            all += book(b).weigh(r);
        }
        return all;
    }

    long chance(int b, int s, boolean lower) {
        int by = book(b) == null || !book(b).sign(s) ? -3 : lack(b);
        if (by == 0 && sum(b) == 0) {
            by = -7;
        }
        if (by != 0) {
            no(by);
            return 0;
        }
        java.math.BigInteger some = java.math.BigInteger.ZERO;
        java.math.BigInteger all = java.math.BigInteger.valueOf(sum(b));
        for (int r : book(b).told()) {
            if (book(b).holds(s, r)) {
                some = some.add(java.math.BigInteger.valueOf(book(b).weigh(r)));
            }
        }
        return (lower ? all : some).divide(all.gcd(some)).longValueExact();
    }

    int sure(int b, int s) {
        int by = book(b) == null || !book(b).sign(s) ? -3 : lack(b);
        if (by != 0) {
            return no(by);
        }
        int yes = 0;
        int not = 0;
        for (int r : book(b).told()) {
            if (book(b).holds(s, r)) {
                yes++;
            } else {
                not++;
            }
        }
        return yes + not == 0 ? 3 : not == 0 ? 1 : yes == 0 ? 2 : 0;
    }

    int kth(int b, int k) {
        if (lack(b) != 0) {
            return no(lack(b));
        }
        if (k < 0) {
            return no(-4);
        }
        List<Integer> told = book(b).told();
        return k >= told.size() ? no(-7) : told.get(k);
    }

    int rank(int b, int r) {
        if (lack(b) != 0) {
            return no(lack(b));
        }
        if (r < 0 || r > 1 << book(b).n) {
            return no(-3);
        }
        return (int) book(b).told().stream().filter(x -> x < r).count();
    }

    int next(int b, int r) {
        if (lack(b) != 0) {
            return no(lack(b));
        }
        if (r < -1 || r >= 1 << book(b).n) {
            return no(-3);
        }
        return book(b).told().stream().filter(x -> x > r).findFirst().orElse(-1);
    }

    int most(int b, boolean least) {
        if (lack(b) != 0) {
            return no(lack(b));
        }
        int best = -1;
        for (int r : book(b).told()) {
            long w = book(b).weigh(r);
            if (best < 0 || (least ? w < book(b).weigh(best) : w > book(b).weigh(best))) {
                best = r;
            }
        }
        return best < 0 ? no(-7) : best;
    }

    long weigh(int b, int r) {
        if (book(b) == null || r < 0 || r >= 1 << book(b).n) {
            no(-3);
            return 0;
        }
        return book(b).weigh(r);
    }

    int asked(int b) {
        if (lack(b) != 0) {
            return no(lack(b));
        }
        Set<List<Boolean>> ways = new HashSet<>();
        for (int r : book(b).told()) {
            List<Boolean> way = new ArrayList<>();
            for (int l : book(b).asked) {
                way.add(book(b).holds(l, r));
            }
            ways.add(way);
        }
        return ways.size();
    }

    int less(boolean other) {
        if (books[0].graph == null || books[1].graph == null) {
            return no(-2);
        }
        if (books[0].n != books[1].n) {
            return no(-7);
        }
        Set<Integer> here = new HashSet<>(books[other ? 1 : 0].told());
        here.removeAll(new HashSet<>(books[other ? 0 : 1].told()));
        return here.size();
    }

    int join() {
        if (books[0].n != books[1].n) {
            return no(-7);
        }
        if (books[0].clauses.size() + books[1].clauses.size() > 40) {
            return no(-8);
        }
        if (books[0].clauses.addAll(books[1].clauses)) {
            books[0].graph = null;
        }
        return books[0].clauses.size();
    }

    int lay(int b, int c) {
        if (book(b) == null || c < 0 || c >= book(b).clauses.size()) {
            return no(-3);
        }
        theRow = new ArrayList<>(book(b).clauses.get(c));
        theRow.sort((x, y) -> Math.abs(x) - Math.abs(y));
        return theRow.size();
    }

    int tear() {
        int was = theRow == null ? 0 : 1;
        theRow = null;
        return was;
    }

    int row(int i) {
        if (theRow == null || i < 0 || i >= theRow.size()) {
            no(theRow == null ? -2 : -3);
            return 0;
        }
        return theRow.get(i);
    }

    int copy(int i, int j, int n) {
        if (theRow == null) {
            return no(-2);
        }
        if (n < 0) {
            return no(-4);
        }
        if (i < 0 || j < 0 || (long) i + n > theRow.size() || (long) j + n > theRow.size()) {
            return no(-6);
        }
        List<Integer> old = new ArrayList<>(theRow);
        for (int k = 0; k < n; k++) {
            theRow.set(j + k, old.get(i + k));
        }
        return n;
    }

    int give(int b) {
        if (book(b) == null) {
            return no(-3);
        }
        if (theRow == null) {
            return no(-2);
        }
        for (int s : theRow) {
            if (!book(b).sign(s)) {
                return no(-3);
            }
        }
        return put(book(b), theRow);
    }

    int status(int by) {
        return by > -2 || by < -9 ? no(-7) : refused[-by];
    }
}
