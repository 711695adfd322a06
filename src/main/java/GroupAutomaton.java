import java.util.Arrays;
import java.util.NoSuchElementException;

/**
 * Cellular automata whose states are the elements of a small finite group.
 *
 * <p>All rows are made with the object and used again, so that the calls make no objects. Every array is read
 * and written through at, put, bitsAt and putBits, and every number that is no constant divides through quotient,
 * remainder, over and around: they look at the index or the divisor first.
 */
public final class GroupAutomaton {
    public static final int NONE = -1;

    private static final int MOST_STATES = 6;
    private static final int MOST_NODES = 36;
    private static final int MOST_PAIRS = 1296;
    private static final int MOST_WORDS = 216;
    private static final int MOST_CELLS = 16;
    private static final int MOST_TERMS = 8;
    private static final int MOST_CASES = 12;
    private static final int MOST_BYTES = 500;
    private static final int MOST_CHANGES = 10;
    private static final int MOST_STEPS = 100;
    private static final int MOST_RINGS_BEHIND = 1000;
    private static final int MOST_INVERSE_WIDTH = 5;
    private static final int MOST_INVERSE_WORDS = 7776;
    private static final int MOST_WORDS_LOOKED_AT = 50000;

    private final Loader loader;
    private final Group group;
    private final Rule local;
    private final Rule mover;
    private final Ring ring;
    private final Ring slotZero;
    private final Ring slotOne;
    private final Ring work;
    private final Ring spare;
    private final Changes changes;
    private final Pairs pairs;
    private final InverseRule reverse;
    private final ConservedSums conserved;
    private final Walks walks;
    private final Orbit orbit;

    public GroupAutomaton() {
        loader = new Loader();
        group = new Group();
        local = new Rule();
        mover = new Rule();
        ring = new Ring();
        slotZero = new Ring();
        slotOne = new Ring();
        work = new Ring();
        spare = new Ring();
        changes = new Changes();
        pairs = new Pairs();
        reverse = new InverseRule();
        conserved = new ConservedSums();
        walks = new Walks();
        orbit = new Orbit();
        group.becomeCyclic(2);
        local.restart(2, 2);
        // the rule a: 1 for the words 1 0 and 1 1
        local.give(2, 1);
        local.give(3, 1);
        ring.add(0);
    }

    // ---- the text

    public int append(int a, int b, int c, int d, int e) throws IllegalStateException {
        if (loader.text.length + 20 > MOST_BYTES) {
            throw new IllegalStateException("the text would be too long");
        }
        loader.text.addFour(a);
        loader.text.addFour(b);
        loader.text.addFour(c);
        loader.text.addFour(d);
        loader.text.addFour(e);
        return loader.text.length;
    }

    public int truncate(int length) throws IndexOutOfBoundsException {
        if (length < 0 || length > loader.text.length) {
            throw new IndexOutOfBoundsException("no such length");
        }
        loader.text.length = length;
        return length;
    }

    public int load() throws IllegalArgumentException {
        boolean isText = loader.read();
        loader.text.length = 0;
        if (!isText) {
            throw new IllegalArgumentException("the text has an error");
        }
        group.copy(loader.newGroup);
        local.copy(loader.newRule);
        ring.copy(loader.newRing);
        slotZero.length = 0;
        slotOne.length = 0;
        changes.count = 0;
        return ring.length;
    }

    public int errorCode() {
        return loader.code;
    }

    public int errorPosition() {
        return loader.position;
    }

    // ---- the group

    public int order() {
        return group.states;
    }

    public int product(int x, int y) throws IndexOutOfBoundsException {
        if (!group.has(x) || !group.has(y)) {
            throw new IndexOutOfBoundsException("no such element");
        }
        return group.times(x, y);
    }

    public int element(int x, int what) throws IndexOutOfBoundsException, IllegalArgumentException {
        if (!group.has(x)) {
            throw new IndexOutOfBoundsException("no such element");
        }
        switch (what) {
            case 0:
                return group.minus(x);
            case 1:
                return group.orderOf(x);
            case 2:
                return group.commuting(x);
            case 3:
                return group.conjugates(x);
            default:
                throw new IllegalArgumentException("what is out of range");
        }
    }

    public int generated(int set) throws IllegalArgumentException {
        if ((set & ~group.all()) != 0) {
            throw new IllegalArgumentException("the set contains something that is no element");
        }
        return group.span(set);
    }

    public int subgroups() {
        return group.countSubgroups();
    }

    // ---- the rule

    public int rule(int a, int b, int c) throws IndexOutOfBoundsException {
        if (!local.hasWord(a, b, c)) {
            throw new IndexOutOfBoundsException("no such state");
        }
        return local.gives(local.wordOf(a, b, c));
    }

    public int width() {
        return local.wordLength;
    }

    public int words(int state) throws IndexOutOfBoundsException {
        if (!group.has(state)) {
            throw new IndexOutOfBoundsException("no such state");
        }
        return local.countWords(state);
    }

    public boolean isHomomorphism() {
        return local.isHomomorphic(group);
    }

    public boolean isPermutive(boolean isRight) {
        return local.isPermutiveAt(isRight ? local.wordLength - 1 : 0);
    }

    public int closed() {
        int closedOnes = 0;
        for (int state = 0; state < group.states; state++) {
            if (local.staysWithin(group.span(1 << state))) {
                closedOnes |= 1 << state;
            }
        }
        return closedOnes;
    }

    public int setCase(int a, int b, int c, int state) throws IndexOutOfBoundsException {
        if (!local.hasWord(a, b, c) || !group.has(state)) {
            throw new IndexOutOfBoundsException("no such state");
        }
        int word = local.wordOf(a, b, c);
        int previous = local.gives(word);
        changes.record(ring, word, previous);
        local.give(word, state);
        return previous;
    }

    // ---- rows

    public boolean isSurjective() {
        pairs.prepare(local);
        return pairs.shortest == 0;
    }

    public boolean isInjective() {
        pairs.prepare(local);
        return pairs.isOneToOne;
    }

    public int diamond() throws NoSuchElementException {
        pairs.prepare(local);
        if (pairs.shortest == 0) {
            throw new NoSuchElementException("there is no diamond");
        }
        return pairs.shortest;
    }

    public int inverse(int what) throws IllegalArgumentException, NoSuchElementException {
        if (what < 0 || what > 2) {
            throw new IllegalArgumentException("what is out of range");
        }
        if (!hasInverse()) {
            throw new NoSuchElementException("there is no inverse rule");
        }
        if (what == 0) {
            return reverse.wordLength;
        }
        return what == 1 ? reverse.shift : reverse.countWords();
    }

    public int inverseOf(int word) throws NoSuchElementException, IllegalArgumentException {
        if (!hasInverse()) {
            throw new NoSuchElementException("there is no inverse rule");
        }
        int code = reverse.codeOfDecimal(word);
        if (code == NONE) {
            throw new IllegalArgumentException("no such word");
        }
        return reverse.gives(code);
    }

    // ---- conserved sums

    public int sums() {
        conserved.prepare(local);
        return conserved.dimension;
    }

    public long sum(int row, int state, int part) throws IndexOutOfBoundsException, IllegalArgumentException {
        conserved.prepare(local);
        if (row < 0 || row >= conserved.dimension || !group.has(state)) {
            throw new IndexOutOfBoundsException("no such row or state");
        }
        if (part < 0 || part > 1) {
            throw new IllegalArgumentException("part is out of range");
        }
        return conserved.part(row, state, part);
    }

    public long value(int row, int part) throws IndexOutOfBoundsException, IllegalArgumentException {
        conserved.prepare(local);
        if (row < 0 || row >= conserved.dimension) {
            throw new IndexOutOfBoundsException("no such row");
        }
        if (part < 0 || part > 1) {
            throw new IllegalArgumentException("part is out of range");
        }
        return conserved.partOfValue(ring, row, part);
    }

    // ---- the ring

    public int size() {
        return ring.length;
    }

    public int cell(int cell) throws IndexOutOfBoundsException {
        if (!ring.has(cell)) {
            throw new IndexOutOfBoundsException("no such cell");
        }
        return ring.stateOf(cell);
    }

    public int total() {
        return ring.productOfAll(group);
    }

    public double density() {
        if (ring.length == 0) {
            return 0.0;
        }
        return (double) ring.countNotZero() / ring.length;
    }

    public long preimages() {
        return walks.count(local, ring);
    }

    public int preimage(int cell) throws IndexOutOfBoundsException, NoSuchElementException {
        if (!ring.has(cell)) {
            throw new IndexOutOfBoundsException("no such cell");
        }
        if (!walks.findFirst(local, ring, work)) {
            throw new NoSuchElementException("there is no such ring");
        }
        return work.stateOf(cell);
    }

    public int cycle(int what) throws IllegalArgumentException, NoSuchElementException {
        if (what < 0 || what > 1) {
            throw new IllegalArgumentException("what is out of range");
        }
        if (!orbit.follow(local, ring, work, spare)) {
            throw new NoSuchElementException("no ring comes twice soon enough");
        }
        return what == 0 ? orbit.start : orbit.period;
    }

    public long fixed(int cells) throws IllegalArgumentException {
        if (cells < 1 || cells > MOST_CELLS) {
            throw new IllegalArgumentException("no such size");
        }
        mover.becomeMoverOf(local);
        work.becomeNeutral(cells);
        return walks.count(mover, work);
    }

    public long kernel(int cells) throws IllegalArgumentException {
        if (cells < 1 || cells > MOST_CELLS) {
            throw new IllegalArgumentException("no such size");
        }
        work.becomeNeutral(cells);
        return walks.count(local, work);
    }

    // ---- changes of the ring

    public int step(int steps) throws IllegalArgumentException {
        if (steps < 1 || steps > MOST_STEPS) {
            throw new IllegalArgumentException("steps is out of range");
        }
        work.copy(ring);
        for (int made = 0; made < steps; made++) {
            spare.becomeStepOf(work, local);
            work.copy(spare);
        }
        return replaceRing();
    }

    public int back(int steps) throws IllegalArgumentException, NoSuchElementException, IllegalStateException {
        if (steps < 1 || steps > MOST_STEPS) {
            throw new IllegalArgumentException("steps is out of range");
        }
        if (!hasInverse()) {
            throw new NoSuchElementException("there is no inverse rule");
        }
        work.copy(ring);
        for (int made = 0; made < steps; made++) {
            if (!reverse.stepBack(work, spare)) {
                throw new IllegalStateException("the inverse rule has no state for a word");
            }
            work.copy(spare);
        }
        return replaceRing();
    }

    public int set(int cell, int state) throws IndexOutOfBoundsException {
        if (!ring.has(cell) || !group.has(state)) {
            throw new IndexOutOfBoundsException("no such cell or state");
        }
        int previous = ring.stateOf(cell);
        changes.record(ring, NONE, 0);
        ring.setTo(cell, state);
        return previous;
    }

    public int grow(int state) throws IndexOutOfBoundsException, IllegalStateException {
        if (!group.has(state)) {
            throw new IndexOutOfBoundsException("no such state");
        }
        if (ring.length >= MOST_CELLS) {
            throw new IllegalStateException("the ring is full");
        }
        changes.record(ring, NONE, 0);
        ring.add(state);
        return ring.length;
    }

    public int rotate(int by) {
        // the turn is made small first: k + by itself could exceed the int numbers
        int turn = around(by, ring.length);
        work.copy(ring);
        changes.record(ring, NONE, 0);
        for (int k = 0; k < ring.length; k++) {
            ring.setTo(k, work.stateAround(k + turn));
        }
        return ring.stateOf(0);
    }

    public int keep(int slot) throws IndexOutOfBoundsException {
        if (slot < 0 || slot > 1) {
            throw new IndexOutOfBoundsException("no such slot");
        }
        slotOf(slot).copy(ring);
        return ring.length;
    }

    public int multiply(int slot) throws IndexOutOfBoundsException, NoSuchElementException, IllegalStateException {
        if (slot < 0 || slot > 1) {
            throw new IndexOutOfBoundsException("no such slot");
        }
        Ring factor = slotOf(slot);
        if (factor.length == 0) {
            throw new NoSuchElementException("the slot is empty");
        }
        if (factor.length != ring.length) {
            throw new IllegalStateException("the ring in the slot has another size");
        }
        changes.record(ring, NONE, 0);
        for (int k = 0; k < ring.length; k++) {
            ring.setTo(k, group.times(ring.stateOf(k), factor.stateOf(k)));
        }
        return ring.productOfAll(group);
    }

    public int undo() throws IllegalStateException {
        if (changes.count == 0) {
            throw new IllegalStateException("there is nothing to undo");
        }
        changes.takeBack(ring, local);
        return changes.count;
    }

    private boolean hasInverse() {
        // the states of a row that an inverse rule tells are told for sure, so the long search needs an injective rule
        pairs.prepare(local);
        if (!pairs.isOneToOne) {
            return false;
        }
        reverse.prepare(local);
        return reverse.wordLength > 0;
    }

    /** Puts the ring in work in place of the ring, as a change, and counts the cells that differ. */
    private int replaceRing() {
        int moved = ring.countDifferent(work);
        changes.record(ring, NONE, 0);
        ring.copy(work);
        return moved;
    }

    private Ring slotOf(int slot) {
        return slot == 0 ? slotZero : slotOne;
    }

    // ---- numbers and rows, whatever they are given

    private static int at(int[] row, int index) {
        return index >= 0 && index < row.length ? row[index] : 0;
    }

    private static void put(int[] row, int index, int number) {
        if (index >= 0 && index < row.length) {
            row[index] = number;
        }
    }

    private static long bitsAt(long[] row, int index) {
        return index >= 0 && index < row.length ? row[index] : 0L;
    }

    private static void putBits(long[] row, int index, long bits) {
        if (index >= 0 && index < row.length) {
            row[index] = bits;
        }
    }

    private static int quotient(int number, int divisor) {
        return divisor > 0 ? number / divisor : 0;
    }

    private static int remainder(int number, int divisor) {
        return divisor > 0 ? number % divisor : 0;
    }

    private static int around(int index, int length) {
        return length > 0 ? Math.floorMod(index, length) : 0;
    }

    private static long over(long number, long divisor) {
        return divisor > 0 ? number / divisor : 0L;
    }

    private static int power(int base, int exponent) {
        int result = 1;
        for (int factor = 0; factor < exponent; factor++) {
            result *= base;
        }
        return result;
    }

    /** The least number in a bit set; 0 for the empty set. */
    private static int leastOf(long set) {
        for (int number = 0; number < 64; number++) {
            if ((set >> number & 1L) != 0) {
                return number;
            }
        }
        return 0;
    }

    /** The greatest common divisor, which is positive if one of the numbers is not 0. */
    private static long commonDivisor(long one, long other) {
        long greater = Math.abs(one);
        long less = Math.abs(other);
        // Euclid's way takes fewer than 100 turns for any two long numbers
        for (int turn = 0; turn < 100 && less != 0; turn++) {
            long rest = greater % less;
            greater = less;
            less = rest;
        }
        return greater;
    }

    /** A group by its table of products. */
    private static final class Group {
        /** What the six permutations make of 0, 1 and 2. */
        private static final int[] IMAGES = {0, 1, 2, 0, 2, 1, 1, 0, 2, 1, 2, 0, 2, 0, 1, 2, 1, 0};

        private final int[] products = new int[MOST_STATES * MOST_STATES];
        int states;

        void becomeCyclic(int newStates) {
            states = newStates;
            for (int x = 0; x < states; x++) {
                for (int y = 0; y < states; y++) {
                    putProduct(x, y, remainder(x + y, states));
                }
            }
        }

        void becomeKlein() {
            states = 4;
            for (int x = 0; x < states; x++) {
                for (int y = 0; y < states; y++) {
                    putProduct(x, y, x ^ y);
                }
            }
        }

        void becomeSym() {
            states = 6;
            for (int x = 0; x < states; x++) {
                for (int y = 0; y < states; y++) {
                    putProduct(x, y, permutation(image(x, image(y, 0)), image(x, image(y, 1))));
                }
            }
        }

        private static int image(int x, int number) {
            return at(IMAGES, 3 * x + number);
        }

        /** The permutation by what 0 and 1 become. */
        private static int permutation(int ofZero, int ofOne) {
            for (int x = 0; x < MOST_STATES; x++) {
                if (image(x, 0) == ofZero && image(x, 1) == ofOne) {
                    return x;
                }
            }
            return 0;
        }

        private void putProduct(int x, int y, int result) {
            put(products, x * MOST_STATES + y, result);
        }

        void copy(Group other) {
            states = other.states;
            for (int i = 0; i < products.length; i++) {
                put(products, i, at(other.products, i));
            }
        }

        boolean has(int x) {
            return x >= 0 && x < states;
        }

        int all() {
            return (1 << states) - 1;
        }

        int times(int x, int y) {
            return at(products, x * MOST_STATES + y);
        }

        int minus(int x) {
            for (int y = 0; y < states; y++) {
                if (times(x, y) == 0) {
                    return y;
                }
            }
            return 0;
        }

        int orderOf(int x) {
            int reached = x;
            int factors = 1;
            while (reached != 0 && factors < states) {
                reached = times(reached, x);
                factors++;
            }
            return factors;
        }

        int commuting(int x) {
            int set = 0;
            for (int y = 0; y < states; y++) {
                if (times(x, y) == times(y, x)) {
                    set |= 1 << y;
                }
            }
            return set;
        }

        int conjugates(int x) {
            int set = 0;
            for (int y = 0; y < states; y++) {
                set |= 1 << times(times(y, x), minus(y));
            }
            return set;
        }

        /** In a finite group what is closed under products is closed under inverses too. */
        int span(int set) {
            int reached = set | 1;
            // a round that adds nothing ends the growth, so there are fewer rounds than states
            for (int round = 0; round < states; round++) {
                reached |= productsWithin(reached);
            }
            return reached;
        }

        private int productsWithin(int set) {
            int reached = 0;
            for (int x = 0; x < states; x++) {
                for (int y = 0; y < states; y++) {
                    if ((set >> x & 1) != 0 && (set >> y & 1) != 0) {
                        reached |= 1 << times(x, y);
                    }
                }
            }
            return reached;
        }

        int countSubgroups() {
            int count = 0;
            // only the odd sets hold the neutral element
            for (int set = 1; set <= all(); set += 2) {
                if (productsWithin(set) == set) {
                    count++;
                }
            }
            return count;
        }
    }

    /**
     * A rule by its table; a word is told by its code, its states being the digits of a number to the base g.
     *
     * <p>The graph of the words: its nodes are the words of w - 1 states, and each word of w states is an edge from
     * its first to its last w - 1 states, labelled with the state that the rule gives for it. Sets of nodes are bit
     * sets.
     */
    private static final class Rule {
        private final int[] table = new int[MOST_WORDS];
        private final long[] successors = new long[MOST_STATES * MOST_NODES];
        private final long[] predecessors = new long[MOST_STATES * MOST_NODES];
        int states;
        int wordLength;
        int wordCount;
        int nodes;
        /** Counts the changes, so that what was found out for a table is not found out again. */
        int version;

        /** The rule that gives the neutral element for every word. */
        void restart(int newStates, int newWordLength) {
            states = newStates;
            wordLength = newWordLength;
            nodes = power(states, wordLength - 1);
            wordCount = nodes * states;
            Arrays.fill(table, 0);
            version++;
        }

        void copy(Rule other) {
            restart(other.states, other.wordLength);
            for (int word = 0; word < wordCount; word++) {
                put(table, word, other.gives(word));
            }
        }

        /** Multiplies all that the rule gives by a term: the state at a place, or an element if the place is NONE. */
        void takeFactor(Group group, int place, int element, boolean isInverse) {
            for (int word = 0; word < wordCount; word++) {
                int factor = place == NONE ? element : stateOf(word, place);
                if (isInverse) {
                    factor = group.minus(factor);
                }
                put(table, word, group.times(gives(word), factor));
            }
            version++;
        }

        /** The rule that gives 0 for a word in which the given rule leaves the cell as it is, and 1 for the others. */
        void becomeMoverOf(Rule other) {
            restart(other.states, other.wordLength);
            for (int word = 0; word < wordCount; word++) {
                put(table, word, other.gives(word) == stateOf(word, wordLength - 2) ? 0 : 1);
            }
        }

        int gives(int word) {
            return at(table, word);
        }

        void give(int word, int state) {
            put(table, word, state);
            version++;
        }

        private boolean hasState(int state) {
            return state >= 0 && state < states;
        }

        boolean hasWord(int a, int b, int c) {
            return hasState(a) && hasState(b) && (wordLength == 2 || hasState(c));
        }

        int wordOf(int a, int b, int c) {
            int pair = a * states + b;
            return wordLength == 2 ? pair : pair * states + c;
        }

        /** What one state more at a place adds to the code of a word. */
        private int weightOf(int place) {
            return power(states, wordLength - 1 - place);
        }

        private int stateOf(int word, int place) {
            return remainder(quotient(word, weightOf(place)), states);
        }

        /** Draws the graph; to be called before after and before. */
        void link() {
            Arrays.fill(successors, 0L);
            Arrays.fill(predecessors, 0L);
            for (int word = 0; word < wordCount; word++) {
                int label = gives(word);
                int from = quotient(word, states);
                int to = remainder(word, nodes);
                putBits(successors, label * MOST_NODES + from, after(label, from) | 1L << to);
                putBits(predecessors, label * MOST_NODES + to, before(label, to) | 1L << from);
            }
        }

        /** The nodes to which edges with a label lead from a node. */
        long after(int label, int node) {
            return bitsAt(successors, label * MOST_NODES + node);
        }

        /** The nodes from which edges with a label lead to a node. */
        long before(int label, int node) {
            return bitsAt(predecessors, label * MOST_NODES + node);
        }

        int countWords(int state) {
            int count = 0;
            for (int word = 0; word < wordCount; word++) {
                if (gives(word) == state) {
                    count++;
                }
            }
            return count;
        }

        /** The words with one state that is not neutral generate all words, so it is enough to multiply by these. */
        boolean isHomomorphic(Group group) {
            for (int place = 0; place < wordLength; place++) {
                for (int factor = 1; factor < states; factor++) {
                    if (!respects(group, place, factor)) {
                        return false;
                    }
                }
            }
            return true;
        }

        private boolean respects(Group group, int place, int factor) {
            int weight = weightOf(place);
            int given = gives(factor * weight);
            for (int word = 0; word < wordCount; word++) {
                int state = stateOf(word, place);
                int multiplied = word + (group.times(state, factor) - state) * weight;
                if (gives(multiplied) != group.times(gives(word), given)) {
                    return false;
                }
            }
            return true;
        }

        boolean isPermutiveAt(int place) {
            int weight = weightOf(place);
            for (int word = 0; word < wordCount; word++) {
                if (stateOf(word, place) == 0 && !isOneToOneFrom(word, weight)) {
                    return false;
                }
            }
            return true;
        }

        private boolean isOneToOneFrom(int word, int weight) {
            int given = 0;
            for (int state = 0; state < states; state++) {
                given |= 1 << gives(word + state * weight);
            }
            return given == (1 << states) - 1;
        }

        boolean staysWithin(int set) {
            for (int word = 0; word < wordCount; word++) {
                if (isWordOf(word, set) && (set >> gives(word) & 1) == 0) {
                    return false;
                }
            }
            return true;
        }

        private boolean isWordOf(int word, int set) {
            for (int place = 0; place < wordLength; place++) {
                if ((set >> stateOf(word, place) & 1) == 0) {
                    return false;
                }
            }
            return true;
        }
    }

    /** A ring of cells; a ring of no cells stands for none. */
    private static final class Ring {
        private final int[] states = new int[MOST_CELLS];
        int length;

        boolean has(int index) {
            return index >= 0 && index < length;
        }

        int stateOf(int index) {
            return at(states, index);
        }

        int stateAround(int index) {
            return at(states, around(index, length));
        }

        void setTo(int index, int state) {
            put(states, index, state);
        }

        void add(int state) {
            if (length < MOST_CELLS) {
                setTo(length, state);
                length++;
            }
        }

        void copy(Ring other) {
            length = other.length;
            for (int k = 0; k < length; k++) {
                setTo(k, other.stateOf(k));
            }
        }

        void becomeNeutral(int newLength) {
            length = newLength;
            Arrays.fill(states, 0);
        }

        void becomeStepOf(Ring other, Rule rule) {
            length = other.length;
            for (int k = 0; k < length; k++) {
                int first = k - rule.wordLength + 2;
                setTo(k, rule.gives(rule.wordOf(
                        other.stateAround(first), other.stateAround(first + 1), other.stateAround(first + 2))));
            }
        }

        int countDifferent(Ring other) {
            int count = 0;
            for (int k = 0; k < length; k++) {
                if (stateOf(k) != other.stateOf(k)) {
                    count++;
                }
            }
            return count;
        }

        int countNotZero() {
            int count = 0;
            for (int k = 0; k < length; k++) {
                if (stateOf(k) != 0) {
                    count++;
                }
            }
            return count;
        }

        int productOfAll(Group group) {
            int result = 0;
            for (int k = 0; k < length; k++) {
                result = group.times(result, stateOf(k));
            }
            return result;
        }

        /** Rings of the same length have different codes. */
        long code() {
            long result = 0;
            for (int k = 0; k < length; k++) {
                result = result * MOST_STATES + stateOf(k);
            }
            return result;
        }
    }

    /** The latest changes, each by the ring before it and, for a change of the rule, the word and its state before it. */
    private static final class Changes {
        private final int[] cells = new int[MOST_CHANGES * MOST_CELLS];
        private final int[] lengths = new int[MOST_CHANGES];
        private final int[] caseWords = new int[MOST_CHANGES];
        private final int[] caseStates = new int[MOST_CHANGES];
        int count;
        private int latest;

        void record(Ring ring, int word, int state) {
            latest = around(latest + 1, MOST_CHANGES);
            count = Math.min(count + 1, MOST_CHANGES);
            put(lengths, latest, ring.length);
            put(caseWords, latest, word);
            put(caseStates, latest, state);
            for (int k = 0; k < ring.length; k++) {
                put(cells, latest * MOST_CELLS + k, ring.stateOf(k));
            }
        }

        void takeBack(Ring ring, Rule rule) {
            ring.length = at(lengths, latest);
            for (int k = 0; k < ring.length; k++) {
                ring.setTo(k, at(cells, latest * MOST_CELLS + k));
            }
            if (at(caseWords, latest) != NONE) {
                rule.give(at(caseWords, latest), at(caseStates, latest));
            }
            latest = around(latest - 1, MOST_CHANGES);
            count--;
        }
    }

    /** The text buffer, read token by token. */
    private static final class Text {
        static final int END = 0;
        static final int LETTERS = 1;
        static final int NUMBER = 2;
        static final int SYMBOL = 3;
        static final int NO_TOKEN = 4;

        private final int[] bytes = new int[MOST_BYTES];
        int length;
        int kind;
        int start;
        int number;
        private int end;

        void addFour(int four) {
            for (int shift = 24; shift >= 0; shift -= 8) {
                put(bytes, length, four >> shift & 255);
                length++;
            }
        }

        void rewind() {
            end = 0;
            advance();
        }

        void advance() {
            start = end;
            while (start < length && (at(bytes, start) == ' ' || at(bytes, start) == '\n')) {
                start++;
            }
            int first = at(bytes, start);
            if (start >= length) {
                end = start;
                kind = END;
            } else if (isLetter(first)) {
                end = endOfRun('a', 'z');
                kind = LETTERS;
            } else if (isDigit(first)) {
                end = endOfRun('0', '9');
                kind = end - start > 2 ? NO_TOKEN : NUMBER;
                number = end - start > 1 ? 10 * (first - '0') + at(bytes, start + 1) - '0' : first - '0';
            } else {
                end = start + 1;
                kind = first == ';' || first == '*' || first == '-' || first == '=' ? SYMBOL : NO_TOKEN;
            }
        }

        private static boolean isLetter(int sign) {
            return sign >= 'a' && sign <= 'z';
        }

        private static boolean isDigit(int sign) {
            return sign >= '0' && sign <= '9';
        }

        private int endOfRun(int least, int greatest) {
            int index = start;
            while (index < length && at(bytes, index) >= least && at(bytes, index) <= greatest) {
                index++;
            }
            return index;
        }

        boolean isSymbol(char symbol) {
            return kind == SYMBOL && at(bytes, start) == symbol;
        }

        boolean isWord(String word) {
            if (kind != LETTERS || end - start != word.length()) {
                return false;
            }
            for (int i = 0; i < word.length(); i++) {
                if (at(bytes, start + i) != word.charAt(i)) {
                    return false;
                }
            }
            return true;
        }

        /** The place in a word that the letter a, b or c stands for; NONE if the token is another one. */
        int place() {
            int first = at(bytes, start);
            return kind == LETTERS && end - start == 1 && first <= 'c' ? first - 'a' : NONE;
        }
    }

    /** Reads a text into a group, a rule and a ring of its own: those of the automaton stay if there is an error. */
    private static final class Loader {
        private static final int MISPLACED = 1;
        private static final int OUT_OF_RANGE = 2;
        private static final int SECOND_CASE = 3;
        private static final int TOO_MANY = 4;

        final Text text = new Text();
        final Group newGroup = new Group();
        final Rule newRule = new Rule();
        final Ring newRing = new Ring();
        private final int[] hasCase = new int[MOST_WORDS];
        int code;
        int position = NONE;

        boolean read() {
            code = 0;
            position = NONE;
            text.rewind();
            return readGroup() && readWidth() && readTerms() && readCases() && readRing() && readEnd();
        }

        private boolean fail(int newCode) {
            code = newCode;
            position = text.start;
            return false;
        }

        private boolean takeWord(String word) {
            if (!text.isWord(word)) {
                return fail(MISPLACED);
            }
            text.advance();
            return true;
        }

        private boolean takeSymbol(char symbol) {
            if (!text.isSymbol(symbol)) {
                return fail(MISPLACED);
            }
            text.advance();
            return true;
        }

        private boolean isNumber(int least, int greatest) {
            if (text.kind != Text.NUMBER) {
                return fail(MISPLACED);
            }
            if (text.number < least || text.number > greatest) {
                return fail(OUT_OF_RANGE);
            }
            return true;
        }

        private boolean isState() {
            return isNumber(0, newGroup.states - 1);
        }

        private boolean readGroup() {
            if (text.isWord("klein")) {
                newGroup.becomeKlein();
            } else if (text.isWord("sym")) {
                newGroup.becomeSym();
            } else {
                if (!takeWord("cyclic") || !isNumber(2, MOST_STATES)) {
                    return false;
                }
                newGroup.becomeCyclic(text.number);
            }
            text.advance();
            return takeSymbol(';');
        }

        private boolean readWidth() {
            if (!takeWord("width") || !isNumber(2, 3)) {
                return false;
            }
            newRule.restart(newGroup.states, text.number);
            text.advance();
            return takeSymbol(';');
        }

        private boolean readTerms() {
            if (!takeWord("word")) {
                return false;
            }
            for (int terms = 0; terms <= MOST_TERMS; terms++) {
                if (!readTerm(terms)) {
                    return false;
                }
                if (!text.isSymbol('*')) {
                    return takeSymbol(';');
                }
                text.advance();
            }
            return false;
        }

        private boolean readTerm(int termsBefore) {
            int place = text.place();
            if ((place == NONE || place >= newRule.wordLength) && !isState()) {
                return false;
            }
            if (termsBefore >= MOST_TERMS) {
                return fail(TOO_MANY);
            }
            int element = text.number;
            text.advance();
            boolean isInverse = text.isSymbol('-');
            if (isInverse) {
                text.advance();
            }
            newRule.takeFactor(newGroup, place, element, isInverse);
            return true;
        }

        private boolean readCases() {
            Arrays.fill(hasCase, 0);
            for (int cases = 0; cases <= MOST_CASES && text.isWord("case"); cases++) {
                if (cases >= MOST_CASES) {
                    return fail(TOO_MANY);
                }
                text.advance();
                if (!readCase()) {
                    return false;
                }
            }
            return true;
        }

        private boolean readCase() {
            int word = 0;
            for (int place = 0; place < newRule.wordLength; place++) {
                if (!isState()) {
                    return false;
                }
                word = word * newRule.states + text.number;
                if (place == newRule.wordLength - 1 && at(hasCase, word) != 0) {
                    return fail(SECOND_CASE);
                }
                text.advance();
            }
            put(hasCase, word, 1);
            if (!takeSymbol('=') || !isState()) {
                return false;
            }
            newRule.give(word, text.number);
            text.advance();
            return takeSymbol(';');
        }

        private boolean readRing() {
            if (!takeWord("ring")) {
                return false;
            }
            newRing.length = 0;
            for (int cells = 0; cells <= MOST_CELLS; cells++) {
                if (cells > 0 && text.isSymbol(';')) {
                    return takeSymbol(';');
                }
                if (!isState()) {
                    return false;
                }
                if (cells >= MOST_CELLS) {
                    return fail(TOO_MANY);
                }
                newRing.add(text.number);
                text.advance();
            }
            return false;
        }

        private boolean readEnd() {
            return text.kind == Text.END || fail(MISPLACED);
        }
    }

    /**
     * Two rows that give the same row are two walks with the same labels. So the questions about rows are asked of
     * pairs of nodes; a row of this class has the set of the second nodes for each first node.
     */
    private static final class Pairs {
        private final long[] seen = new long[MOST_NODES];
        private final long[] fresh = new long[MOST_NODES];
        private final long[] reached = new long[MOST_NODES];
        private int knownVersion = NONE;
        /** The length of the shortest diamond, 0 if there is none. */
        int shortest;
        boolean isOneToOne;

        void prepare(Rule rule) {
            if (knownVersion == rule.version) {
                return;
            }
            knownVersion = rule.version;
            rule.link();
            shortest = lengthOfDiamond(rule);
            // a diamond is a pair of different rows that give the same row
            isOneToOne = shortest == 0 && keepsRowsApart(rule);
        }

        /** The edges of the shortest way from a pair of equal nodes over unequal ones to a pair of equal nodes. */
        private int lengthOfDiamond(Rule rule) {
            Arrays.fill(seen, 0L);
            leaveEqualNodes(rule);
            for (int length = 1; length <= MOST_PAIRS + 1; length++) {
                if (hasEqualNodes(rule)) {
                    return length;
                }
                if (!hasFresh(rule)) {
                    return 0;
                }
                goOn(rule);
            }
            return 0;
        }

        private void leaveEqualNodes(Rule rule) {
            Arrays.fill(reached, 0L);
            for (int word = 0; word < rule.wordCount; word++) {
                int node = remainder(word, rule.nodes);
                long same = rule.after(rule.gives(word), quotient(word, rule.states));
                putBits(reached, node, bitsAt(reached, node) | same & ~(1L << node));
            }
        }

        private boolean hasEqualNodes(Rule rule) {
            for (int node = 0; node < rule.nodes; node++) {
                if ((bitsAt(reached, node) >> node & 1L) != 0) {
                    return true;
                }
            }
            return false;
        }

        private boolean hasFresh(Rule rule) {
            boolean isAny = false;
            for (int node = 0; node < rule.nodes; node++) {
                long added = bitsAt(reached, node) & ~bitsAt(seen, node);
                putBits(fresh, node, added);
                putBits(seen, node, bitsAt(seen, node) | added);
                isAny = isAny || added != 0;
            }
            return isAny;
        }

        private void goOn(Rule rule) {
            Arrays.fill(reached, 0L);
            for (int word = 0; word < rule.wordCount; word++) {
                long seconds = bitsAt(fresh, quotient(word, rule.states));
                int to = remainder(word, rule.nodes);
                putBits(reached, to, bitsAt(reached, to) | allAfter(rule, rule.gives(word), seconds));
            }
        }

        private long allAfter(Rule rule, int label, long nodes) {
            long all = 0L;
            for (int node = 0; node < rule.nodes && nodes >> node != 0; node++) {
                if ((nodes >> node & 1L) != 0) {
                    all |= rule.after(label, node);
                }
            }
            return all;
        }

        /** Only pairs with endless ways forth and back stand in two rows that give the same row. */
        private boolean keepsRowsApart(Rule rule) {
            Arrays.fill(seen, (1L << rule.nodes) - 1);
            boolean isDropping = true;
            for (int sweep = 0; isDropping && sweep <= MOST_PAIRS; sweep++) {
                isDropping = dropDeadEnds(rule);
            }
            for (int node = 0; node < rule.nodes; node++) {
                if (bitsAt(seen, node) != 1L << node) {
                    return false;
                }
            }
            return true;
        }

        private boolean dropDeadEnds(Rule rule) {
            boolean isDropping = false;
            for (int first = 0; first < rule.nodes; first++) {
                for (int second = 0; second < rule.nodes; second++) {
                    boolean isLeft = (bitsAt(seen, first) >> second & 1L) != 0;
                    if (isLeft && !(hasWayForth(rule, first, second) && hasWayBack(rule, first, second))) {
                        putBits(seen, first, bitsAt(seen, first) & ~(1L << second));
                        isDropping = true;
                    }
                }
            }
            return isDropping;
        }

        private boolean hasWayForth(Rule rule, int first, int second) {
            for (int state = 0; state < rule.states; state++) {
                int word = first * rule.states + state;
                if ((rule.after(rule.gives(word), second) & bitsAt(seen, remainder(word, rule.nodes))) != 0) {
                    return true;
                }
            }
            return false;
        }

        private boolean hasWayBack(Rule rule, int first, int second) {
            for (int state = 0; state < rule.states; state++) {
                int word = state * rule.nodes + first;
                if ((rule.before(rule.gives(word), second) & bitsAt(seen, quotient(word, rule.states))) != 0) {
                    return true;
                }
            }
            return false;
        }
    }

    /** The inverse rule: for each word of new states the first word of old states that gives it, or NONE. */
    private static final class InverseRule {
        private final int[] origins = new int[MOST_INVERSE_WORDS];
        private int knownVersion = NONE;
        private int states;
        /** How many old cells stand in a word before the first cell that has a new state in it. */
        private int lead;
        private int originLength;
        /** The width, 0 if there is no inverse rule. */
        int wordLength;
        int shift;

        void prepare(Rule rule) {
            if (knownVersion == rule.version) {
                return;
            }
            knownVersion = rule.version;
            states = rule.states;
            lead = rule.wordLength - 2;
            wordLength = 0;
            for (int tried = 1; tried <= MOST_INVERSE_WIDTH && wordLength == 0; tried++) {
                originLength = tried + rule.wordLength - 1;
                int shifts = power(states, originLength) > MOST_WORDS_LOOKED_AT ? 0 : commonShifts(rule, tried);
                if (shifts != 0) {
                    wordLength = tried;
                    shift = leastOf(shifts);
                }
            }
        }

        /** The set of the places at which all words that give the same word have the same state. */
        private int commonShifts(Rule rule, int length) {
            Arrays.fill(origins, NONE);
            int shifts = (1 << originLength) - 1;
            int words = power(states, originLength);
            for (int word = 0; word < words && shifts != 0; word++) {
                int image = imageOf(rule, word, length);
                if (at(origins, image) == NONE) {
                    put(origins, image, word);
                } else {
                    shifts &= samePlaces(at(origins, image), word);
                }
            }
            return shifts;
        }

        private int imageOf(Rule rule, int word, int length) {
            int image = 0;
            int weight = 1;
            int rest = word;
            for (int k = 0; k < length; k++) {
                image += weight * rule.gives(remainder(rest, rule.wordCount));
                weight *= states;
                rest = quotient(rest, states);
            }
            return image;
        }

        private int samePlaces(int one, int other) {
            int same = 0;
            int restOfOne = one;
            int restOfOther = other;
            for (int place = originLength - 1; place >= 0; place--) {
                if (remainder(restOfOne, states) == remainder(restOfOther, states)) {
                    same |= 1 << place;
                }
                restOfOne = quotient(restOfOne, states);
                restOfOther = quotient(restOfOther, states);
            }
            return same;
        }

        int countWords() {
            int count = 0;
            int words = power(states, wordLength);
            for (int image = 0; image < words; image++) {
                if (at(origins, image) != NONE) {
                    count++;
                }
            }
            return count;
        }

        /** The state for a word by its code; NONE if there is none. */
        int gives(int code) {
            int origin = at(origins, code);
            if (origin == NONE) {
                return NONE;
            }
            return remainder(quotient(origin, power(states, originLength - 1 - shift)), states);
        }

        /** The code of a word that is written as a decimal number; NONE if it is no word. */
        int codeOfDecimal(int decimal) {
            int code = 0;
            int weight = 1;
            int rest = decimal;
            for (int place = 0; place < wordLength; place++) {
                int digit = rest % 10;
                if (digit < 0 || digit >= states) {
                    return NONE;
                }
                code += weight * digit;
                weight *= states;
                rest /= 10;
            }
            return rest == 0 ? code : NONE;
        }

        /** Makes the ring before the given one; false if there is no state for a word. */
        boolean stepBack(Ring ring, Ring result) {
            result.length = ring.length;
            for (int k = 0; k < ring.length; k++) {
                int state = gives(codeAround(ring, k - shift + lead));
                if (state == NONE) {
                    return false;
                }
                result.setTo(k, state);
            }
            return true;
        }

        private int codeAround(Ring ring, int first) {
            int code = 0;
            for (int place = 0; place < wordLength; place++) {
                code = code * states + ring.stateAround(first + place);
            }
            return code;
        }
    }

    /**
     * The conserved sums. A sum is conserved just if what a word adds, q(new state) - q(first state), is the rise of
     * a potential of the nodes of the graph of the words, for then, and only then, it adds up to 0 around each
     * ring. A way from the node of zeros tells the potential, so each word yields one equation for q.
     */
    private static final class ConservedSums {
        /** In row x the equation whose last number that is not 0 is that of state x, if there is one. */
        private final long[] equations = new long[MOST_STATES * MOST_STATES];
        private final long[] equation = new long[MOST_STATES];
        private final long[] tops = new long[MOST_STATES * MOST_STATES];
        private final long[] bottoms = new long[MOST_STATES * MOST_STATES];
        private int knownVersion = NONE;
        private int states;
        int dimension;

        void prepare(Rule rule) {
            if (knownVersion == rule.version) {
                return;
            }
            knownVersion = rule.version;
            states = rule.states;
            Arrays.fill(equations, 0L);
            for (int word = 0; word < rule.wordCount; word++) {
                writeEquation(rule, word);
                addEquation();
            }
            for (int x = 0; x < states; x++) {
                if (isBound(x)) {
                    clearBelow(x);
                }
            }
            writeBasis();
        }

        private void writeEquation(Rule rule, int word) {
            Arrays.fill(equation, 0L);
            addTerm(rule.gives(word), 1);
            addTerm(quotient(word, rule.nodes), -1);
            addPotential(rule, quotient(word, rule.states), 1);
            addPotential(rule, remainder(word, rule.nodes), -1);
        }

        private void addTerm(int state, int sign) {
            putBits(equation, state, bitsAt(equation, state) + sign);
        }

        /**
         * On the way from the zeros to a node stand the words of zeros with its first states, and with all its states,
         * behind them. What is the same for all nodes is left out, or added for all.
         */
        private void addPotential(Rule rule, int node, int sign) {
            addTerm(rule.gives(node), sign);
            addTerm(rule.gives(quotient(node, rule.states)), sign);
        }

        private long numberOf(int row, int state) {
            return bitsAt(equations, row * MOST_STATES + state);
        }

        /** Whether q(x) follows from the numbers q of lesser states. */
        private boolean isBound(int x) {
            return numberOf(x, x) != 0;
        }

        private void addEquation() {
            for (int x = states - 1; x >= 0; x--) {
                if (bitsAt(equation, x) != 0) {
                    if (!isBound(x)) {
                        keepEquation(x);
                        return;
                    }
                    eliminate(x);
                }
            }
        }

        private void keepEquation(int row) {
            for (int x = 0; x < states; x++) {
                putBits(equations, row * MOST_STATES + x, bitsAt(equation, x));
            }
        }

        /** Makes the number of state row 0 by the equation in the row; all numbers stay whole and small. */
        private void eliminate(int row) {
            long here = bitsAt(equation, row);
            long there = numberOf(row, row);
            long divisor = 0;
            for (int x = 0; x < states; x++) {
                long number = bitsAt(equation, x) * there - numberOf(row, x) * here;
                putBits(equation, x, number);
                divisor = commonDivisor(divisor, number);
            }
            for (int x = 0; x < states; x++) {
                putBits(equation, x, over(bitsAt(equation, x), divisor));
            }
        }

        /** Leaves only free states in the equation of a bound one; the rows below must be cleared already. */
        private void clearBelow(int row) {
            for (int x = 0; x < states; x++) {
                putBits(equation, x, numberOf(row, x));
            }
            for (int x = row - 1; x >= 0; x--) {
                if (isBound(x) && bitsAt(equation, x) != 0) {
                    eliminate(x);
                }
            }
            keepEquation(row);
        }

        /** A row for each free state: it is 1 there, 0 at the other free states, and the equations tell the rest. */
        private void writeBasis() {
            dimension = 0;
            for (int free = 0; free < states; free++) {
                if (!isBound(free)) {
                    for (int x = 0; x < states; x++) {
                        if (isBound(x)) {
                            writeFraction(x, -numberOf(x, free), numberOf(x, x));
                        } else {
                            writeFraction(x, x == free ? 1 : 0, 1);
                        }
                    }
                    dimension++;
                }
            }
        }

        private void writeFraction(int state, long top, long bottom) {
            long divisor = commonDivisor(top, bottom);
            int sign = bottom < 0 ? -1 : 1;
            putBits(tops, dimension * MOST_STATES + state, sign * over(top, divisor));
            putBits(bottoms, dimension * MOST_STATES + state, sign * over(bottom, divisor));
        }

        long part(int row, int state, int part) {
            return bitsAt(part == 0 ? tops : bottoms, row * MOST_STATES + state);
        }

        long partOfValue(Ring ring, int row, int part) {
            long top = 0;
            long bottom = 1;
            for (int k = 0; k < ring.length; k++) {
                long otherTop = part(row, ring.stateOf(k), 0);
                long otherBottom = part(row, ring.stateOf(k), 1);
                top = top * otherBottom + otherTop * bottom;
                bottom = bottom * otherBottom;
                long divisor = commonDivisor(top, bottom);
                top = over(top, divisor);
                bottom = over(bottom, divisor);
            }
            return part == 0 ? top : bottom;
        }
    }

    /** The rings of n cells are the closed walks of n edges in the graph of the words, also for n less than w. */
    private static final class Walks {
        private final long[] counts = new long[MOST_NODES];
        private final long[] nextCounts = new long[MOST_NODES];
        /** After k edges: the set of the nodes from which the walk can still come back to its start. */
        private final long[] returning = new long[MOST_CELLS + 1];

        /** Counts the rings that the rule turns into the goal. */
        long count(Rule rule, Ring goal) {
            long count = 0;
            for (int start = 0; start < rule.nodes; start++) {
                count += countFrom(rule, goal, start);
            }
            return count;
        }

        private long countFrom(Rule rule, Ring goal, int start) {
            Arrays.fill(counts, 0L);
            putBits(counts, start, 1L);
            for (int k = 0; k < goal.length; k++) {
                countEdges(rule, labelOf(rule, goal, k));
            }
            return bitsAt(counts, start);
        }

        /** The walk begins at cell 0, and the cell that gets the label of edge k is the last but one of its word. */
        private static int labelOf(Rule rule, Ring goal, int k) {
            return goal.stateAround(k + rule.wordLength - 2);
        }

        private void countEdges(Rule rule, int label) {
            Arrays.fill(nextCounts, 0L);
            for (int node = 0; node < rule.nodes; node++) {
                if (bitsAt(counts, node) != 0) {
                    addEdges(rule, label, node);
                }
            }
            for (int node = 0; node < rule.nodes; node++) {
                putBits(counts, node, bitsAt(nextCounts, node));
            }
        }

        private void addEdges(Rule rule, int label, int node) {
            for (int state = 0; state < rule.states; state++) {
                int word = node * rule.states + state;
                if (rule.gives(word) == label) {
                    int to = remainder(word, rule.nodes);
                    putBits(nextCounts, to, bitsAt(nextCounts, to) + bitsAt(counts, node));
                }
            }
        }

        /** Finds the lexicographically first ring that the rule turns into the goal; false if there is none. */
        boolean findFirst(Rule rule, Ring goal, Ring result) {
            rule.link();
            for (int start = 0; start < rule.nodes; start++) {
                lookBack(rule, goal, start);
                if ((bitsAt(returning, 0) >> start & 1L) != 0) {
                    walk(rule, goal, start, result);
                    return true;
                }
            }
            return false;
        }

        private void lookBack(Rule rule, Ring goal, int start) {
            putBits(returning, goal.length, 1L << start);
            for (int k = goal.length - 1; k >= 0; k--) {
                int label = labelOf(rule, goal, k);
                long set = 0L;
                for (int node = 0; node < rule.nodes; node++) {
                    if ((rule.after(label, node) & bitsAt(returning, k + 1)) != 0) {
                        set |= 1L << node;
                    }
                }
                putBits(returning, k, set);
            }
        }

        private void walk(Rule rule, Ring goal, int start, Ring result) {
            int node = start;
            result.length = goal.length;
            for (int k = 0; k < goal.length; k++) {
                result.setTo(k, quotient(node * rule.states, rule.nodes));
                // all nodes behind this one begin alike, so the least one has the least state at the end
                long next = rule.after(labelOf(rule, goal, k), node) & bitsAt(returning, k + 1);
                node = leastOf(next);
            }
        }
    }

    /** The rings that follow one another by steps, by their codes. */
    private static final class Orbit {
        private final long[] codes = new long[MOST_RINGS_BEHIND + 1];
        int start;
        int period;

        /** Looks for the first ring that comes twice; false if that takes too many steps. */
        boolean follow(Rule rule, Ring from, Ring now, Ring next) {
            now.copy(from);
            putBits(codes, 0, now.code());
            int mark = 0;
            for (int k = 1; k <= MOST_RINGS_BEHIND; k++) {
                next.becomeStepOf(now, rule);
                now.copy(next);
                putBits(codes, k, now.code());
                if (bitsAt(codes, k) == bitsAt(codes, mark)) {
                    setPeriod(k - mark);
                    return true;
                }
                // Brent's way: a mark that moves on far enough comes to stand in the cycle
                if (k == 2 * mark + 1) {
                    mark = k;
                }
            }
            return findLastAgain();
        }

        /** If any of the rings comes twice, the last one stands in the cycle. */
        private boolean findLastAgain() {
            for (int k = MOST_RINGS_BEHIND - 1; k >= 0; k--) {
                if (bitsAt(codes, k) == bitsAt(codes, MOST_RINGS_BEHIND)) {
                    setPeriod(MOST_RINGS_BEHIND - k);
                    return true;
                }
            }
            return false;
        }

        private void setPeriod(int newPeriod) {
            period = newPeriod;
            start = 0;
            while (start < MOST_RINGS_BEHIND && bitsAt(codes, start) != bitsAt(codes, start + period)) {
                start++;
            }
        }
    }
}
