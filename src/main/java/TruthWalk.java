/**
 * A compiler of truths: two books of clauses, a graph made of each, and what the graphs tell.
 *
 * A set of signs is held as bits: letter l as bit l - 1, its denial as bit 12 + l - 1. A set of
 * rows is held as words of 64 rows, so that a graph is asked of 64 rows at once. Every array is
 * made with the object, and none by a call.
 */
public final class TruthWalk {
    public static final int NONE = -1;
    public static final int MISSING = -2;
    public static final int BEYOND = -3;
    public static final int BELOW = -4;
    public static final int KIND = -5;
    public static final int COPY = -6;
    public static final int NO = -7;
    public static final int FULL = -8;
    public static final int SPENT = -9;

    private static final int MOST_LETTERS = 12;
    private static final int FIRST_LETTERS = 8;
    private static final int MOST_CLAUSES = 40;
    private static final int MOST_SIGNS = 5;
    private static final int MOST_WEIGHT = 7;
    private static final int MOST_NODES = 1500;
    private static final int MOST_ROWS = 4096;
    private static final int MOST_WORDS = 64;
    private static final int SIGN_PLACES = 2 * MOST_LETTERS;
    private static final int LETTER_BITS = (1 << MOST_LETTERS) - 1;

    // The parts of a both share no letter when they come, and each has one.
    private static final int MOST_PARTS = MOST_LETTERS;

    // Each choice takes a letter away and a piece has two or more, so at most 2^(12 - k) pieces of
    // k letters are met: 2047 in all. Such a piece has at most 3^k - 2k - 1 clauses and at most 40:
    // 1024 * 4 + 512 * 20 + 511 * 40 in all.
    private static final int MOST_MET = 2047;
    private static final int MOST_MET_CLAUSES = 34776;
    private static final int MET_CHAINS = 256;

    private static final int TRUE_KIND = 0;
    private static final int NEVER_KIND = 1;
    private static final int LIT_KIND = 2;
    private static final int BOTH_KIND = 3;
    private static final int CHOICE_KIND = 4;

    private static final int TRUE_NODE = 0;
    private static final int NEVER_NODE = 1;

    // Bit r of pattern b is bit b of the number r: where a letter is yes within a word of rows.
    private static final long[] PATTERNS = {
        0xAAAAAAAAAAAAAAAAL, 0xCCCCCCCCCCCCCCCCL, 0xF0F0F0F0F0F0F0F0L,
        0xFF00FF00FF00FF00L, 0xFFFF0000FFFF0000L, 0xFFFFFFFF00000000L
    };

    private final Book bookZero = new Book();
    private final Book bookOne = new Book();
    private final Maker maker = new Maker();
    private final long[] rowWeights = new long[MOST_ROWS];
    private final RowSet ways = new RowSet();
    private final int[] theRow = new int[MOST_SIGNS];
    private final int[] refusals = new int[-SPENT + 1];
    private int rowSize = 0;
    private boolean rowThere = false;
    private int culprit = NONE;

    public TruthWalk() {
    }

    // ---- books

    public int letters(int book, int n) {
        Book held = bookAt(book);
        if (held == null) {
            return refuse(BEYOND);
        }
        if (n < 1 || n > MOST_LETTERS) {
            return refuse(NO);
        }
        int before = held.letterCount;
        held.startAnew(n);
        return before;
    }

    public int clause(int book, int a, int b, int c, int d) {
        Book held = bookAt(book);
        if (held == null) {
            return refuse(BEYOND);
        }
        if (!held.allows(a) || !held.allows(b) || !held.allows(c) || !held.allows(d)) {
            return refuse(BEYOND);
        }
        return putClause(held, bitOf(a) | bitOf(b) | bitOf(c) | bitOf(d));
    }

    public int more(int book, int sign) {
        Book held = bookAt(book);
        if (held == null || !held.hasSign(sign)) {
            return refuse(BEYOND);
        }
        if (held.clauseCount == 0) {
            return refuse(MISSING);
        }
        int signs = held.clauseAt(held.clauseCount - 1);
        if ((signs & (bitOf(sign) | bitOf(-sign))) != 0) {
            return refuse(NO);
        }
        if (Integer.bitCount(signs) >= MOST_SIGNS) {
            return refuse(FULL);
        }
        held.widenLast(bitOf(sign));
        return Integer.bitCount(signs) + 1;
    }

    public int drop(int book) {
        Book held = bookAt(book);
        if (held == null) {
            return refuse(BEYOND);
        }
        if (held.clauseCount == 0) {
            return refuse(MISSING);
        }
        held.dropLast();
        return held.clauseCount;
    }

    public int ask(int book, int letter, boolean is) {
        Book held = bookAt(book);
        if (held == null || !held.hasLetter(letter)) {
            return refuse(BEYOND);
        }
        int bit = bitOf(letter);
        boolean was = (held.askedLetters & bit) != 0;
        if (was != is) {
            held.askedLetters ^= bit;
            held.compiled = false;
        }
        return was ? 1 : 0;
    }

    public int fix(int book, int sign) {
        Book held = bookAt(book);
        if (held == null || !held.hasSign(sign)) {
            return refuse(BEYOND);
        }
        int bit = bitOf(sign);
        int denial = bitOf(-sign);
        if ((held.fixedSigns & bit) != 0) {
            return 0;
        }
        boolean denied = (held.fixedSigns & denial) != 0;
        held.fixedSigns = (held.fixedSigns & ~denial) | bit;
        return denied ? 2 : 1;
    }

    public int loose(int book, int letter) {
        Book held = bookAt(book);
        if (held == null || !held.hasLetter(letter)) {
            return refuse(BEYOND);
        }
        int either = bitOf(letter) | bitOf(-letter);
        boolean was = (held.fixedSigns & either) != 0;
        held.fixedSigns &= ~either;
        return was ? 1 : 0;
    }

    public int weight(int book, int sign, int w) {
        Book held = bookAt(book);
        if (held == null || !held.hasSign(sign)) {
            return refuse(BEYOND);
        }
        if (w < 0 || w > MOST_WEIGHT) {
            return refuse(NO);
        }
        int before = held.weightOf(sign);
        held.setWeight(sign, w);
        return before;
    }

    public int count(int book, int what) {
        Book held = bookAt(book);
        if (held == null) {
            return refuse(BEYOND);
        }
        switch (what) {
            case 0:
                return held.letterCount;
            case 1:
                return held.clauseCount;
            case 2:
                return held.compiled ? held.graph.nodeCount : 0;
            case 3:
                return held.compiled ? held.graph.metAgain : 0;
            case 4:
                return Integer.bitCount(held.askedLetters);
            case 5:
                return Integer.bitCount(held.fixedSigns);
            default:
                return refuse(NO);
        }
    }

    // ---- the graph

    public int compile(int book) {
        Book held = bookAt(book);
        if (held == null) {
            return refuse(BEYOND);
        }
        held.compiled = maker.makeGraph(held);
        if (!held.compiled) {
            return refuse(SPENT);
        }
        return held.graph.nodeCount;
    }

    public int root(int book) {
        Book held = bookAt(book);
        if (held == null) {
            return refuse(BEYOND);
        }
        if (!held.compiled) {
            return refuse(MISSING);
        }
        return held.graph.rootNode;
    }

    public int node(int book, int node, int what) {
        Book held = bookAt(book);
        if (held == null) {
            return refuse(BEYOND);
        }
        if (!held.compiled) {
            return refuse(MISSING);
        }
        if (!held.graph.hasNode(node)) {
            return refuse(BEYOND);
        }
        switch (what) {
            case 0:
                return held.graph.kinds[node];
            case 1:
                return held.graph.names[node];
            case 2:
                return held.graph.partCounts[node];
            case 3:
                return held.graph.letterSets[node];
            default:
                return refuse(NO);
        }
    }

    public int part(int book, int node, int j) {
        Book held = bookAt(book);
        if (held == null) {
            return refuse(BEYOND);
        }
        if (!held.compiled) {
            return refuse(MISSING);
        }
        if (!held.graph.hasNode(node)) {
            return refuse(BEYOND);
        }
        if (held.graph.partCounts[node] == 0) {
            return refuse(KIND);
        }
        if (j < 0 || j >= held.graph.partCounts[node]) {
            return refuse(BEYOND);
        }
        return held.graph.partAt(node, j);
    }

    public int bend(int book, int node, int j, int other) {
        Book held = bookAt(book);
        if (held == null) {
            return refuse(BEYOND);
        }
        if (!held.compiled) {
            return refuse(MISSING);
        }
        if (!held.graph.hasNode(node)) {
            return refuse(BEYOND);
        }
        if (held.graph.partCounts[node] == 0) {
            return refuse(KIND);
        }
        if (j < 0 || j >= held.graph.partCounts[node] || other < 0 || other >= node) {
            return refuse(BEYOND);
        }
        int before = held.graph.partAt(node, j);
        held.graph.bendPart(node, j, other);
        return before;
    }

    public int judge(int book) {
        Book held = bookAt(book);
        if (held == null) {
            return refuse(BEYOND);
        }
        if (!held.compiled) {
            return refuse(MISSING);
        }
        culprit = held.graph.leastSharingBoth();
        if (culprit != NONE) {
            return 1;
        }
        culprit = held.graph.leastRepeatingChoice();
        if (culprit != NONE) {
            return 2;
        }
        culprit = held.leastRowToldWrong();
        return culprit == NONE ? 0 : 3;
    }

    public int guilty() {
        return culprit;
    }

    // ---- what a graph tells

    public int rows(int book) {
        Book held = bookAt(book);
        if (held == null) {
            return refuse(BEYOND);
        }
        if (!held.compiled) {
            return refuse(MISSING);
        }
        return held.toldRows().size();
    }

    public int says(int book, int row) {
        Book held = bookAt(book);
        if (held == null) {
            return refuse(BEYOND);
        }
        if (!held.compiled) {
            return refuse(MISSING);
        }
        if (row < 0 || row >= held.rowCount()) {
            return refuse(BEYOND);
        }
        return held.toldRows().has(row) ? 1 : 0;
    }

    public long sum(int book) {
        Book held = bookAt(book);
        if (held == null) {
            return refuseWithZero(BEYOND);
        }
        if (!held.compiled) {
            return refuseWithZero(MISSING);
        }
        held.weighAllRows(rowWeights);
        return weightOfAll(held.toldRows());
    }

    public long chance(int book, int sign, boolean lower) {
        Book held = bookAt(book);
        if (held == null || !held.hasSign(sign)) {
            return refuseWithZero(BEYOND);
        }
        if (!held.compiled) {
            return refuseWithZero(MISSING);
        }
        held.weighAllRows(rowWeights);
        RowSet told = held.toldRows();
        long all = weightOfAll(told);
        if (all == 0) {
            return refuseWithZero(NO);
        }
        told.keepWhere(sign);
        long some = weightOfAll(told);
        long divisor = greatestDivisor(all, some);
        if (divisor == 0) {
            return 0;
        }
        return (lower ? all : some) / divisor;
    }

    public int sure(int book, int sign) {
        Book held = bookAt(book);
        if (held == null || !held.hasSign(sign)) {
            return refuse(BEYOND);
        }
        if (!held.compiled) {
            return refuse(MISSING);
        }
        RowSet told = held.toldRows();
        int all = told.size();
        if (all == 0) {
            return 3;
        }
        told.keepWhere(sign);
        int some = told.size();
        if (some == all) {
            return 1;
        }
        return some == 0 ? 2 : 0;
    }

    public int kth(int book, int k) {
        Book held = bookAt(book);
        if (held == null) {
            return refuse(BEYOND);
        }
        if (!held.compiled) {
            return refuse(MISSING);
        }
        if (k < 0) {
            return refuse(BELOW);
        }
        int found = held.toldRows().rowOfRank(k);
        return found == NONE ? refuse(NO) : found;
    }

    public int rank(int book, int row) {
        Book held = bookAt(book);
        if (held == null) {
            return refuse(BEYOND);
        }
        if (!held.compiled) {
            return refuse(MISSING);
        }
        if (row < 0 || row > held.rowCount()) {
            return refuse(BEYOND);
        }
        return held.toldRows().sizeBelow(row);
    }

    public int next(int book, int row) {
        Book held = bookAt(book);
        if (held == null) {
            return refuse(BEYOND);
        }
        if (!held.compiled) {
            return refuse(MISSING);
        }
        if (row < -1 || row >= held.rowCount()) {
            return refuse(BEYOND);
        }
        return held.toldRows().leastFrom(row + 1);
    }

    public int most(int book, boolean least) {
        Book held = bookAt(book);
        if (held == null) {
            return refuse(BEYOND);
        }
        if (!held.compiled) {
            return refuse(MISSING);
        }
        held.weighAllRows(rowWeights);
        int found = heaviest(held.toldRows(), least);
        return found == NONE ? refuse(NO) : found;
    }

    public long weigh(int book, int row) {
        Book held = bookAt(book);
        if (held == null) {
            return refuseWithZero(BEYOND);
        }
        if (row < 0 || row >= held.rowCount()) {
            return refuseWithZero(BEYOND);
        }
        return held.weightOfRow(row);
    }

    public int asked(int book) {
        Book held = bookAt(book);
        if (held == null) {
            return refuse(BEYOND);
        }
        if (!held.compiled) {
            return refuse(MISSING);
        }
        RowSet told = held.toldRows();
        int askedBits = held.rowBitsOfAsked();
        ways.empty(held.letterCount);
        for (int row = 0; row < held.rowCount(); row++) {
            if (told.has(row)) {
                ways.put(row & askedBits);
            }
        }
        return ways.size();
    }

    // ---- two books

    public int less(boolean other) {
        if (!bookZero.compiled || !bookOne.compiled) {
            return refuse(MISSING);
        }
        if (bookZero.letterCount != bookOne.letterCount) {
            return refuse(NO);
        }
        RowSet zero = bookZero.toldRows();
        RowSet one = bookOne.toldRows();
        return other ? one.sizeWithout(zero) : zero.sizeWithout(one);
    }

    public int join() {
        if (bookZero.letterCount != bookOne.letterCount) {
            return refuse(NO);
        }
        if (bookZero.clauseCount + bookOne.clauseCount > MOST_CLAUSES) {
            return refuse(FULL);
        }
        for (int i = 0; i < bookOne.clauseCount; i++) {
            bookZero.addClause(bookOne.clauseAt(i));
        }
        return bookZero.clauseCount;
    }

    // ---- rows of numbers

    public int lay(int book, int clause) {
        Book held = bookAt(book);
        if (held == null || clause < 0 || clause >= held.clauseCount) {
            return refuse(BEYOND);
        }
        int signs = held.clauseAt(clause);
        rowSize = 0;
        rowThere = true;
        for (int letter = 1; letter <= MOST_LETTERS; letter++) {
            if ((signs & bitOf(letter)) != 0) {
                putInRow(letter);
            } else if ((signs & bitOf(-letter)) != 0) {
                putInRow(-letter);
            }
        }
        return rowSize;
    }

    public int tear() {
        boolean was = rowThere;
        rowThere = false;
        return was ? 1 : 0;
    }

    public int row(int i) {
        if (!rowThere) {
            refuse(MISSING);
            return 0;
        }
        if (i < 0 || i >= rowSize) {
            refuse(BEYOND);
            return 0;
        }
        return theRow[i];
    }

    public int copy(int i, int j, int n) {
        if (!rowThere) {
            return refuse(MISSING);
        }
        if (n < 0) {
            return refuse(BELOW);
        }
        // Not i + n: that may wrap around.
        if (n > rowSize || i < 0 || j < 0 || i > rowSize - n || j > rowSize - n) {
            return refuse(COPY);
        }
        System.arraycopy(theRow, i, theRow, j, n);
        return n;
    }

    public int give(int book) {
        Book held = bookAt(book);
        if (held == null) {
            return refuse(BEYOND);
        }
        if (!rowThere) {
            return refuse(MISSING);
        }
        int signs = 0;
        for (int i = 0; i < rowSize; i++) {
            if (!held.hasSign(theRow[i])) {
                return refuse(BEYOND);
            }
            signs |= bitOf(theRow[i]);
        }
        return putClause(held, signs);
    }

    public int status(int by) {
        if (by > MISSING || by < SPENT) {
            return refuse(NO);
        }
        return refusals[-by];
    }

    // ---- helpers of the calls

    private Book bookAt(int book) {
        if (book == 0) {
            return bookZero;
        }
        return book == 1 ? bookOne : null;
    }

    private int refuse(int by) {
        if (by <= MISSING && by >= SPENT) {
            refusals[-by]++;
        }
        return by;
    }

    private long refuseWithZero(int by) {
        refuse(by);
        return 0;
    }

    private int putClause(Book held, int signs) {
        if (signs == 0 || (signs & (signs >> MOST_LETTERS) & LETTER_BITS) != 0) {
            return refuse(NO);
        }
        if (held.clauseCount >= MOST_CLAUSES) {
            return refuse(FULL);
        }
        held.addClause(signs);
        return held.clauseCount - 1;
    }

    private void putInRow(int number) {
        if (rowSize < theRow.length) {
            theRow[rowSize] = number;
            rowSize++;
        }
    }

    private long weightOfAll(RowSet set) {
        long total = 0;
        for (int row = 0; row < rowWeights.length && row < set.rowLimit; row++) {
            if (set.has(row)) {
                total += rowWeights[row];
            }
        }
        return total;
    }

    private int heaviest(RowSet set, boolean least) {
        int best = NONE;
        long bestWeight = 0;
        for (int row = 0; row < rowWeights.length && row < set.rowLimit; row++) {
            long weight = rowWeights[row];
            boolean better = least ? weight < bestWeight : weight > bestWeight;
            if (set.has(row) && (best == NONE || better)) {
                best = row;
                bestWeight = weight;
            }
        }
        return best;
    }

    // Euclid's steps on two longs are fewer than a hundred.
    private static long greatestDivisor(long a, long b) {
        long greater = a;
        long lesser = b;
        for (int step = 0; step < 200 && lesser != 0; step++) {
            long rest = greater % lesser;
            greater = lesser;
            lesser = rest;
        }
        return greater;
    }

    // ---- signs as bits

    private static int placeOf(int sign) {
        return sign > 0 ? sign - 1 : MOST_LETTERS - 1 - sign;
    }

    private static int bitOf(int sign) {
        return sign == 0 ? 0 : 1 << placeOf(sign);
    }

    private static int denialOf(int bit) {
        return bit <= LETTER_BITS ? bit << MOST_LETTERS : bit >> MOST_LETTERS;
    }

    private static int lettersOf(int signs) {
        return (signs | (signs >> MOST_LETTERS)) & LETTER_BITS;
    }

    // Of the rows of a word, of n letters: those in which a sign holds.
    private static long rowsWhere(int sign, int n, int word) {
        int rowBit = n - Math.abs(sign);
        long yes = 0;
        if (rowBit >= 0 && rowBit < PATTERNS.length) {
            yes = PATTERNS[rowBit];
        } else if (((word >> (rowBit - PATTERNS.length)) & 1) != 0) {
            yes = -1;
        }
        return sign > 0 ? yes : ~yes;
    }

    /** A set of rows of so many letters. */
    private static final class RowSet {
        final long[] words = new long[MOST_WORDS];
        int letterCount = 0;
        int rowLimit = 1;
        int wordCount = 1;

        void empty(int n) {
            letterCount = n;
            rowLimit = 1 << n;
            wordCount = Math.min(MOST_WORDS, Math.max(1, rowLimit / 64));
            for (int w = 0; w < wordCount; w++) {
                words[w] = 0;
            }
        }

        void become(RowSet other) {
            empty(other.letterCount);
            for (int w = 0; w < wordCount; w++) {
                words[w] = other.words[w];
            }
        }

        // Under six letters a word is not full: bits above the last row stay 0.
        void setWord(int w, long rows) {
            if (w >= 0 && w < wordCount) {
                words[w] = rowLimit < 64 ? rows & ((1L << rowLimit) - 1) : rows;
            }
        }

        void put(int row) {
            if (row >= 0 && row < rowLimit) {
                words[row >> 6] |= 1L << (row & 63);
            }
        }

        boolean has(int row) {
            return row >= 0 && row < rowLimit && ((words[row >> 6] >> (row & 63)) & 1) != 0;
        }

        void keepWhere(int sign) {
            for (int w = 0; w < wordCount; w++) {
                words[w] &= rowsWhere(sign, letterCount, w);
            }
        }

        int size() {
            return sizeBelow(rowLimit);
        }

        int sizeBelow(int row) {
            int whole = Math.min(wordCount, row >> 6);
            int size = 0;
            for (int w = 0; w < whole; w++) {
                size += Long.bitCount(words[w]);
            }
            if (whole < wordCount) {
                size += Long.bitCount(words[whole] & ((1L << (row & 63)) - 1));
            }
            return size;
        }

        int sizeWithout(RowSet other) {
            int size = 0;
            for (int w = 0; w < wordCount; w++) {
                size += Long.bitCount(words[w] & ~other.words[w]);
            }
            return size;
        }

        int leastFrom(int row) {
            for (int at = Math.max(0, row); at < rowLimit; at++) {
                if (has(at)) {
                    return at;
                }
            }
            return NONE;
        }

        int rowOfRank(int k) {
            int left = k;
            for (int w = 0; w < wordCount; w++) {
                int here = Long.bitCount(words[w]);
                if (left < here) {
                    return rowOfRankFrom(w << 6, left);
                }
                left -= here;
            }
            return NONE;
        }

        private int rowOfRankFrom(int start, int k) {
            int left = k;
            for (int row = start; row < rowLimit; row++) {
                if (has(row)) {
                    if (left == 0) {
                        return row;
                    }
                    left--;
                }
            }
            return NONE;
        }
    }

    /** Letters, clauses and all that is said of them, with the graph that was made of them. */
    private static final class Book {
        final int[] clauses = new int[MOST_CLAUSES];
        final int[] weights = new int[SIGN_PLACES];
        final Graph graph = new Graph();
        final RowSet told = new RowSet();
        int letterCount = 0;
        int clauseCount = 0;
        int askedLetters = 0;
        int fixedSigns = 0;
        boolean compiled = false;

        Book() {
            startAnew(FIRST_LETTERS);
        }

        void startAnew(int n) {
            letterCount = n;
            clauseCount = 0;
            askedLetters = 0;
            fixedSigns = 0;
            compiled = false;
            for (int i = 0; i < weights.length; i++) {
                weights[i] = 1;
            }
        }

        int rowCount() {
            return 1 << letterCount;
        }

        boolean hasLetter(int letter) {
            return letter >= 1 && letter <= letterCount;
        }

        boolean hasSign(int sign) {
            return sign != 0 && allows(sign);
        }

        // A sign, or 0 for none.
        boolean allows(int sign) {
            return sign >= -letterCount && sign <= letterCount;
        }

        int clauseAt(int i) {
            return i >= 0 && i < clauses.length ? clauses[i] : 0;
        }

        void addClause(int signs) {
            if (clauseCount < clauses.length) {
                clauses[clauseCount] = signs;
                clauseCount++;
                compiled = false;
            }
        }

        void widenLast(int bit) {
            if (clauseCount > 0 && clauseCount <= clauses.length) {
                clauses[clauseCount - 1] |= bit;
                compiled = false;
            }
        }

        void dropLast() {
            if (clauseCount > 0) {
                clauseCount--;
                compiled = false;
            }
        }

        int weightOf(int sign) {
            return hasSign(sign) ? weights[placeOf(sign)] : 1;
        }

        void setWeight(int sign, int w) {
            if (hasSign(sign)) {
                weights[placeOf(sign)] = w;
            }
        }

        long weightOfRow(int row) {
            long product = 1;
            for (int letter = 1; letter <= letterCount; letter++) {
                boolean yes = ((row >> (letterCount - letter)) & 1) != 0;
                product *= weightOf(yes ? letter : -letter);
            }
            return product;
        }

        // The last letter is the lowest bit: with each letter the rows so far stand twice.
        void weighAllRows(long[] into) {
            if (into.length < rowCount()) {
                return;
            }
            into[0] = 1;
            int filled = 1;
            for (int letter = letterCount; letter >= 1; letter--) {
                int yes = weightOf(letter);
                int no = weightOf(-letter);
                for (int row = 0; row < filled; row++) {
                    into[filled + row] = into[row] * yes;
                    into[row] *= no;
                }
                filled *= 2;
            }
        }

        int rowBitsOfAsked() {
            int bits = 0;
            for (int letter = 1; letter <= letterCount; letter++) {
                if ((askedLetters & bitOf(letter)) != 0) {
                    bits |= 1 << (letterCount - letter);
                }
            }
            return bits;
        }

        // What the root says, where all that is fixed holds. The set is made anew at each call.
        RowSet toldRows() {
            told.become(graph.saidByRoot(letterCount));
            for (int letter = 1; letter <= letterCount; letter++) {
                if ((fixedSigns & bitOf(letter)) != 0) {
                    told.keepWhere(letter);
                } else if ((fixedSigns & bitOf(-letter)) != 0) {
                    told.keepWhere(-letter);
                }
            }
            return told;
        }

        int leastRowToldWrong() {
            RowSet said = graph.saidByRoot(letterCount);
            told.empty(letterCount);
            for (int w = 0; w < said.wordCount; w++) {
                told.setWord(w, said.words[w] ^ wholeRows(w));
            }
            return told.leastFrom(0);
        }

        private long wholeRows(int word) {
            long whole = -1;
            for (int i = 0; i < clauseCount; i++) {
                whole &= rowsOfClause(clauseAt(i), word);
            }
            return whole;
        }

        private long rowsOfClause(int signs, int word) {
            long rows = 0;
            int letters = lettersOf(signs);
            for (int letter = 1; letter <= letterCount; letter++) {
                if (((letters >> (letter - 1)) & 1) != 0) {
                    boolean plain = (signs & bitOf(letter)) != 0;
                    rows |= rowsWhere(plain ? letter : -letter, letterCount, word);
                }
            }
            return rows;
        }
    }

    /** Nodes as they came; the parts of a node have lesser numbers, bent or not. */
    private static final class Graph {
        final int[] kinds = new int[MOST_NODES];
        final int[] names = new int[MOST_NODES];
        final int[] partCounts = new int[MOST_NODES];
        final int[] letterSets = new int[MOST_NODES];
        private final int[] parts = new int[MOST_NODES * MOST_PARTS];
        private final long[] saidByNode = new long[MOST_NODES];
        private final RowSet said = new RowSet();
        private boolean saidIsOld = true;
        int nodeCount = 0;
        int rootNode = 0;
        int metAgain = 0;
        boolean spent = false;

        void startAnew() {
            nodeCount = 0;
            rootNode = TRUE_NODE;
            metAgain = 0;
            spent = false;
            saidIsOld = true;
            addNode(TRUE_KIND, 0, 0);
            addNode(NEVER_KIND, 0, 0);
        }

        boolean hasNode(int node) {
            return node >= 0 && node < nodeCount && node < MOST_NODES;
        }

        // NONE, and the graph is spent, where there is no room for one node more.
        int addNode(int kind, int name, int letters) {
            if (nodeCount >= MOST_NODES) {
                spent = true;
                return NONE;
            }
            int node = nodeCount;
            nodeCount++;
            kinds[node] = kind;
            names[node] = name;
            partCounts[node] = 0;
            letterSets[node] = letters;
            return node;
        }

        void addPart(int node, int part) {
            if (!hasNode(node) || !hasNode(part) || partCounts[node] >= MOST_PARTS) {
                return;
            }
            parts[node * MOST_PARTS + partCounts[node]] = part;
            partCounts[node]++;
            letterSets[node] |= letterSets[part];
        }

        int partAt(int node, int j) {
            if (!hasNode(node) || j < 0 || j >= partCounts[node]) {
                return NONE;
            }
            return parts[node * MOST_PARTS + j];
        }

        void bendPart(int node, int j, int other) {
            if (!hasNode(node) || j < 0 || j >= partCounts[node] || other < 0 || other >= node) {
                return;
            }
            parts[node * MOST_PARTS + j] = other;
            saidIsOld = true;
            for (int above = node; above < nodeCount; above++) {
                gatherLetters(above);
            }
        }

        private void gatherLetters(int node) {
            int letters = lettersOf(bitOf(names[node]));
            for (int j = 0; j < partCounts[node]; j++) {
                letters |= lettersOfPart(node, j);
            }
            letterSets[node] = letters;
        }

        private int lettersOfPart(int node, int j) {
            int part = partAt(node, j);
            return hasNode(part) ? letterSets[part] : 0;
        }

        int leastSharingBoth() {
            for (int node = 0; node < nodeCount; node++) {
                if (kinds[node] == BOTH_KIND && partsShare(node)) {
                    return node;
                }
            }
            return NONE;
        }

        private boolean partsShare(int node) {
            int seen = 0;
            for (int j = 0; j < partCounts[node]; j++) {
                int letters = lettersOfPart(node, j);
                if ((seen & letters) != 0) {
                    return true;
                }
                seen |= letters;
            }
            return false;
        }

        int leastRepeatingChoice() {
            for (int node = 0; node < nodeCount; node++) {
                if (kinds[node] == CHOICE_KIND && partCounts[node] == 2) {
                    int below = lettersOfPart(node, 0) | lettersOfPart(node, 1);
                    if ((below & bitOf(names[node])) != 0) {
                        return node;
                    }
                }
            }
            return NONE;
        }

        // Kept from call to call, until the graph is made anew or bent.
        RowSet saidByRoot(int n) {
            if (saidIsOld) {
                said.empty(n);
                for (int w = 0; w < said.wordCount; w++) {
                    said.setWord(w, wordOfRoot(n, w));
                }
                saidIsOld = false;
            }
            return said;
        }

        // Parts have lesser numbers, so that each is told when it is needed.
        private long wordOfRoot(int n, int word) {
            for (int node = 0; node <= rootNode && node < nodeCount; node++) {
                saidByNode[node] = wordOfNode(node, n, word);
            }
            return hasNode(rootNode) ? saidByNode[rootNode] : 0;
        }

        private long wordOfNode(int node, int n, int word) {
            switch (kinds[node]) {
                case TRUE_KIND:
                    return -1;
                case LIT_KIND:
                    return rowsWhere(names[node], n, word);
                case BOTH_KIND:
                    return wordOfBoth(node);
                case CHOICE_KIND:
                    return wordOfChoice(node, rowsWhere(names[node], n, word));
                default:
                    return 0;
            }
        }

        // This is done for every node and word, so that one test of a part stands for all of partAt's.
        private long wordOfBoth(int node) {
            long rows = -1;
            int first = node * MOST_PARTS;
            for (int j = 0; j < partCounts[node] && j < MOST_PARTS; j++) {
                int part = parts[first + j];
                rows &= part >= 0 && part < node ? saidByNode[part] : 0;
            }
            return rows;
        }

        private long wordOfChoice(int node, long yes) {
            int first = node * MOST_PARTS;
            int yesPart = parts[first];
            int noPart = parts[first + 1];
            if (yesPart < 0 || yesPart >= node || noPart < 0 || noPart >= node) {
                return 0;
            }
            return (yes & saidByNode[yesPart]) | (~yes & saidByNode[noPart]);
        }
    }

    /** Lists of clauses that were met as pieces in one compiling, with the nodes that came of them. */
    private static final class Met {
        private final int[] clauses = new int[MOST_MET_CLAUSES];
        private final int[] starts = new int[MOST_MET];
        private final int[] sizes = new int[MOST_MET];
        private final int[] nodes = new int[MOST_MET];
        private final int[] earlier = new int[MOST_MET];
        private final int[] latest = new int[MET_CHAINS];
        private int metCount = 0;
        private int clausesUsed = 0;

        void forgetAll() {
            metCount = 0;
            clausesUsed = 0;
            for (int i = 0; i < latest.length; i++) {
                latest[i] = NONE;
            }
        }

        // The node that came of the list, or NONE.
        int nodeOf(int[] list, int size) {
            int at = latest[chainOf(list, size)];
            for (int step = 0; step < metCount && at >= 0 && at < metCount; step++) {
                if (isSame(at, list, size)) {
                    return nodes[at];
                }
                at = earlier[at];
            }
            return NONE;
        }

        // False where there is no room; MOST_MET and MOST_MET_CLAUSES say why that can't be.
        boolean remember(int[] list, int size, int node) {
            if (metCount >= MOST_MET || size > list.length || size > MOST_MET_CLAUSES - clausesUsed) {
                return false;
            }
            int chain = chainOf(list, size);
            starts[metCount] = clausesUsed;
            sizes[metCount] = size;
            nodes[metCount] = node;
            earlier[metCount] = latest[chain];
            latest[chain] = metCount;
            metCount++;
            for (int i = 0; i < size; i++) {
                clauses[clausesUsed] = list[i];
                clausesUsed++;
            }
            return true;
        }

        private boolean isSame(int at, int[] list, int size) {
            if (sizes[at] != size || size > list.length) {
                return false;
            }
            for (int i = 0; i < size; i++) {
                if (clauses[starts[at] + i] != list[i]) {
                    return false;
                }
            }
            return true;
        }

        private static int chainOf(int[] list, int size) {
            int mixed = size;
            for (int i = 0; i < size && i < list.length; i++) {
                mixed = mixed * 31 + list[i];
            }
            mixed ^= mixed >>> 16;
            mixed ^= mixed >>> 8;
            return mixed & (MET_CHAINS - 1);
        }
    }

    /** A list of clauses that is being made, at one depth of the making. */
    private static final class Level {
        private final int[] list = new int[MOST_CLAUSES];
        private final int[] pieceOf = new int[MOST_CLAUSES];
        final int[] piece = new int[MOST_CLAUSES];
        final int[] taken = new int[MOST_LETTERS];
        final int[] pieceNodes = new int[MOST_LETTERS];
        private int size = 0;
        int pieceSize = 0;
        int takenCount = 0;
        int nodeCount = 0;

        // A list with a sign taken (0: none), without clauses that are alike.
        void load(int[] from, int fromSize, int signBit) {
            takenCount = 0;
            nodeCount = 0;
            take(from, fromSize, signBit);
        }

        // Where the list is its own source, what is written lies never ahead of what is read.
        private void take(int[] from, int fromSize, int signBit) {
            int denial = denialOf(signBit);
            size = 0;
            for (int i = 0; i < fromSize && i < from.length; i++) {
                if ((from[i] & signBit) == 0) {
                    addUnlike(from[i] & ~denial);
                }
            }
        }

        private void addUnlike(int signs) {
            for (int i = 0; i < size; i++) {
                if (list[i] == signs) {
                    return;
                }
            }
            if (size < list.length) {
                list[size] = signs;
                size++;
            }
        }

        // False where a clause is left without a sign. Each round takes a letter away.
        boolean takeLoneSigns() {
            for (int round = 0; round <= MOST_LETTERS; round++) {
                if (hasClauseWithoutSign()) {
                    return false;
                }
                int lone = firstLoneSign();
                if (lone == 0) {
                    return true;
                }
                if (takenCount < taken.length) {
                    taken[takenCount] = lone;
                    takenCount++;
                }
                take(list, size, lone);
            }
            return true;
        }

        private boolean hasClauseWithoutSign() {
            for (int i = 0; i < size; i++) {
                if (list[i] == 0) {
                    return true;
                }
            }
            return false;
        }

        private int firstLoneSign() {
            for (int i = 0; i < size; i++) {
                if (Integer.bitCount(list[i]) == 1) {
                    return list[i];
                }
            }
            return 0;
        }

        // Numbers the pieces by their first clauses: how many there are.
        int markPieces() {
            for (int i = 0; i < size; i++) {
                pieceOf[i] = NONE;
            }
            int pieces = 0;
            for (int i = 0; i < size; i++) {
                if (pieceOf[i] == NONE) {
                    spreadPiece(i, pieces);
                    pieces++;
                }
            }
            return pieces;
        }

        private void spreadPiece(int from, int number) {
            int letters = lettersOf(list[from]);
            int before = 0;
            for (int round = 0; round <= MOST_LETTERS && letters != before; round++) {
                before = letters;
                for (int i = from; i < size; i++) {
                    if ((lettersOf(list[i]) & letters) != 0) {
                        pieceOf[i] = number;
                        letters |= lettersOf(list[i]);
                    }
                }
            }
        }

        void pickPiece(int number) {
            pieceSize = 0;
            for (int i = 0; i < size; i++) {
                if (pieceOf[i] == number) {
                    piece[pieceSize] = list[i];
                    pieceSize++;
                }
            }
        }

        void keepNode(int node) {
            if (nodeCount < pieceNodes.length) {
                pieceNodes[nodeCount] = node;
                nodeCount++;
            }
        }

        // Of the piece's letters, the asked ones if there are any: that in most clauses, the least.
        int letterToChoose(int askedLetters) {
            int letters = 0;
            for (int i = 0; i < pieceSize; i++) {
                letters |= lettersOf(piece[i]);
            }
            if ((letters & askedLetters) != 0) {
                letters &= askedLetters;
            }
            int best = 0;
            int bestCount = 0;
            for (int letter = 1; letter <= MOST_LETTERS; letter++) {
                int count = (letters & bitOf(letter)) != 0 ? clausesWith(bitOf(letter)) : 0;
                if (count > bestCount) {
                    best = letter;
                    bestCount = count;
                }
            }
            return best;
        }

        private int clausesWith(int letterBit) {
            int count = 0;
            for (int i = 0; i < pieceSize; i++) {
                if ((lettersOf(piece[i]) & letterBit) != 0) {
                    count++;
                }
            }
            return count;
        }
    }

    /** Makes graphs of clauses: one book at a time, on levels that are used again. */
    private static final class Maker {
        private final Level[] levels = new Level[MOST_LETTERS + 1];
        private final Met met = new Met();
        private final int[] lits = new int[SIGN_PLACES];
        private int askedLetters = 0;

        Maker() {
            for (int i = 0; i < levels.length; i++) {
                levels[i] = new Level();
            }
        }

        // False where the nodes are through: then the graph is not to be used.
        boolean makeGraph(Book book) {
            askedLetters = book.askedLetters;
            met.forgetAll();
            for (int i = 0; i < lits.length; i++) {
                lits[i] = NONE;
            }
            book.graph.startAnew();
            levels[0].load(book.clauses, book.clauseCount, 0);
            book.graph.rootNode = makeList(book.graph, 0);
            return !book.graph.spent;
        }

        private int makeList(Graph graph, int depth) {
            Level level = levels[depth];
            if (!level.takeLoneSigns()) {
                return NEVER_NODE;
            }
            int pieces = level.markPieces();
            for (int number = 0; number < pieces; number++) {
                level.pickPiece(number);
                int node = makePiece(graph, depth);
                if (graph.spent || node == NEVER_NODE) {
                    return NEVER_NODE;
                }
                level.keepNode(node);
            }
            return nodeOfList(graph, level);
        }

        private int makePiece(Graph graph, int depth) {
            Level level = levels[depth];
            int known = met.nodeOf(level.piece, level.pieceSize);
            if (known != NONE) {
                graph.metAgain++;
                return known;
            }
            int letter = level.letterToChoose(askedLetters);
            int yes = makeSide(graph, depth, bitOf(letter));
            int no = graph.spent ? NEVER_NODE : makeSide(graph, depth, bitOf(-letter));
            if (graph.spent) {
                return NEVER_NODE;
            }
            int node = NEVER_NODE;
            if (yes != NEVER_NODE || no != NEVER_NODE) {
                node = graph.addNode(CHOICE_KIND, letter, bitOf(letter));
                graph.addPart(node, yes);
                graph.addPart(node, no);
            }
            if (!met.remember(level.piece, level.pieceSize, node)) {
                graph.spent = true;
            }
            return node;
        }

        private int makeSide(Graph graph, int depth, int signBit) {
            if (depth + 1 >= levels.length) {
                graph.spent = true;
                return NEVER_NODE;
            }
            levels[depth + 1].load(levels[depth].piece, levels[depth].pieceSize, signBit);
            return makeList(graph, depth + 1);
        }

        private int nodeOfList(Graph graph, Level level) {
            for (int i = 0; i < level.takenCount; i++) {
                level.taken[i] = litOf(graph, level.taken[i]);
            }
            if (level.takenCount + level.nodeCount == 0) {
                return TRUE_NODE;
            }
            if (level.takenCount + level.nodeCount == 1) {
                return level.takenCount == 1 ? level.taken[0] : level.pieceNodes[0];
            }
            int node = graph.addNode(BOTH_KIND, 0, 0);
            for (int i = 0; i < level.takenCount; i++) {
                graph.addPart(node, level.taken[i]);
            }
            for (int i = 0; i < level.nodeCount; i++) {
                graph.addPart(node, level.pieceNodes[i]);
            }
            return node;
        }

        private int litOf(Graph graph, int signBit) {
            int place = Integer.bitCount(signBit - 1);
            if (place >= lits.length) {
                return NEVER_NODE;
            }
            if (lits[place] == NONE) {
                int letter = place % MOST_LETTERS + 1;
                int sign = place < MOST_LETTERS ? letter : -letter;
                lits[place] = graph.addNode(LIT_KIND, sign, 1 << (letter - 1));
            }
            return lits[place];
        }
    }
}
