import java.math.BigInteger;
import java.util.ArrayDeque;
import java.util.ArrayList;
import java.util.Arrays;
import java.util.BitSet;
import java.util.HashMap;
import java.util.List;
import java.util.Map;
import java.util.NoSuchElementException;
import java.util.TreeSet;

/**
 * The document once more, by other means: everything is found by trying all that there is, as far as that is
 * possible. ReferenceTest compares its answers with those of the class.
 */
final class Naive {
    private static final String[] PERMUTATIONS = {"012", "021", "102", "120", "201", "210"};

    final StringBuilder buffer = new StringBuilder();
    int code = 0;
    int position = -1;
    String kind = "cyclic";
    int g = 2;
    int w = 2;
    Map<List<Integer>, Integer> table = new HashMap<>();
    List<Integer> ring = new ArrayList<>(List.of(0));
    final List<List<Integer>> slots = new ArrayList<>();
    final ArrayDeque<Object[]> undos = new ArrayDeque<>();
    private final Map<String, Object> known = new HashMap<>();

    Naive() {
        slots.add(null);
        slots.add(null);
        for (List<Integer> word : words(2)) {
            table.put(word, word.get(0));
        }
    }

    private static void index(boolean isGood) {
        if (!isGood) {
            throw new IndexOutOfBoundsException();
        }
    }

    private static void argument(boolean isGood) {
        if (!isGood) {
            throw new IllegalArgumentException();
        }
    }

    private static void state(boolean isGood) {
        if (!isGood) {
            throw new IllegalStateException();
        }
    }

    private static void such(boolean isGood) {
        if (!isGood) {
            throw new NoSuchElementException();
        }
    }

    private boolean is(int x) {
        return x >= 0 && x < g;
    }

    List<List<Integer>> words(int length) {
        List<List<Integer>> all = new ArrayList<>();
        all.add(List.of());
        for (int k = 0; k < length; k++) {
            List<List<Integer>> longer = new ArrayList<>();
            for (List<Integer> word : all) {
                for (int x = 0; x < g; x++) {
                    List<Integer> more = new ArrayList<>(word);
                    more.add(x);
                    longer.add(more);
                }
            }
            all = longer;
        }
        return all;
    }

    // ---- the text

    int append(int a, int b, int c, int d, int e) {
        state(buffer.length() + 20 <= 500);
        for (int four : new int[] {a, b, c, d, e}) {
            for (int k = 3; k >= 0; k--) {
                buffer.append((char) (four >>> 8 * k & 0xff));
            }
        }
        return buffer.length();
    }

    int truncate(int length) {
        index(length >= 0 && length <= buffer.length());
        buffer.setLength(length);
        return length;
    }

    int load() {
        String text = buffer.toString();
        buffer.setLength(0);
        NaiveText read = new NaiveText(text);
        code = read.code;
        position = read.position;
        argument(code == 0);
        kind = read.kind;
        g = read.g;
        w = read.w;
        table = new HashMap<>();
        for (List<Integer> word : words(w)) {
            int value = 0;
            for (String[] term : read.terms) {
                int x = "abc".contains(term[0]) ? word.get("abc".indexOf(term[0])) : Integer.parseInt(term[0]);
                value = times(value, term[1].equals("-") ? minus(x) : x);
            }
            table.put(word, read.cases.getOrDefault(word, value));
        }
        ring = new ArrayList<>(read.ring);
        slots.set(0, null);
        slots.set(1, null);
        undos.clear();
        known.clear();
        return ring.size();
    }

    // ---- the group

    int order() {
        return g;
    }

    private int times(int x, int y) {
        if (kind.equals("cyclic")) {
            return (x + y) % g;
        }
        if (kind.equals("klein")) {
            return x ^ y;
        }
        StringBuilder both = new StringBuilder();
        for (int k = 0; k < 3; k++) {
            both.append(PERMUTATIONS[x].charAt(PERMUTATIONS[y].charAt(k) - '0'));
        }
        return Arrays.asList(PERMUTATIONS).indexOf(both.toString());
    }

    private int minus(int x) {
        int y = 0;
        while (times(y, x) != 0) {
            y++;
        }
        return y;
    }

    int product(int x, int y) {
        index(is(x) && is(y));
        return times(x, y);
    }

    int element(int x, int what) {
        index(is(x));
        argument(what >= 0 && what <= 3);
        int order = 1;
        for (int reached = x; reached != 0; reached = times(reached, x)) {
            order++;
        }
        int commuting = 0;
        int conjugates = 0;
        for (int y = 0; y < g; y++) {
            commuting |= times(x, y) == times(y, x) ? 1 << y : 0;
            conjugates |= 1 << times(y, times(x, minus(y)));
        }
        return new int[] {minus(x), order, commuting, conjugates}[what];
    }

    private boolean isSubgroup(int set) {
        if ((set & 1) == 0) {
            return false;
        }
        for (int x = 0; x < g; x++) {
            for (int y = 0; y < g; y++) {
                if ((set >> x & set >> y & 1) == 1 && (set >> times(x, minus(y)) & 1) == 0) {
                    return false;
                }
            }
        }
        return true;
    }

    int generated(int set) {
        argument(set >= 0 && set < 1 << g);
        int result = (1 << g) - 1;
        for (int other = 0; other < 1 << g; other++) {
            if (isSubgroup(other) && (other & set) == set) {
                result &= other;
            }
        }
        return result;
    }

    int subgroups() {
        int count = 0;
        for (int set = 0; set < 1 << g; set++) {
            count += isSubgroup(set) ? 1 : 0;
        }
        return count;
    }

    // ---- the rule

    private List<Integer> word(int a, int b, int c) {
        index(is(a) && is(b) && (w == 2 || is(c)));
        return w == 2 ? List.of(a, b) : List.of(a, b, c);
    }

    int rule(int a, int b, int c) {
        return table.get(word(a, b, c));
    }

    int width() {
        return w;
    }

    int words2(int state) {
        index(is(state));
        int count = 0;
        for (int given : table.values()) {
            count += given == state ? 1 : 0;
        }
        return count;
    }

    boolean isHomomorphism() {
        for (List<Integer> one : table.keySet()) {
            for (List<Integer> other : table.keySet()) {
                List<Integer> both = new ArrayList<>();
                for (int k = 0; k < w; k++) {
                    both.add(times(one.get(k), other.get(k)));
                }
                if (table.get(both) != times(table.get(one), table.get(other))) {
                    return false;
                }
            }
        }
        return true;
    }

    boolean isPermutive(boolean isRight) {
        int place = isRight ? w - 1 : 0;
        for (List<Integer> one : table.keySet()) {
            for (int x = 0; x < g; x++) {
                List<Integer> other = new ArrayList<>(one);
                other.set(place, x);
                if (x != one.get(place) && table.get(other).equals(table.get(one))) {
                    return false;
                }
            }
        }
        return true;
    }

    int closed() {
        int result = 0;
        for (int s = 0; s < g; s++) {
            int subgroup = generated(1 << s);
            boolean isClosed = true;
            for (Map.Entry<List<Integer>, Integer> entry : table.entrySet()) {
                boolean isInside = entry.getKey().stream().allMatch(x -> (subgroup >> x & 1) == 1);
                isClosed &= !isInside || (subgroup >> entry.getValue() & 1) == 1;
            }
            result |= isClosed ? 1 << s : 0;
        }
        return result;
    }

    int setCase(int a, int b, int c, int state) {
        List<Integer> word = word(a, b, c);
        index(is(state));
        remember();
        table = new HashMap<>(table);
        known.clear();
        return table.put(word, state);
    }

    // ---- rows

    /** Two different words of one length that begin and end alike in w - 1 states and give the same word. */
    private Integer findDiamond() {
        if (known.containsKey("diamond")) {
            return (Integer) known.get("diamond");
        }
        // the pairs of ends that differ, and how many words they come from; looked at by length
        TreeSet<String> seen = new TreeSet<>();
        List<List<List<Integer>>> now = new ArrayList<>();
        for (List<Integer> start : words(w - 1)) {
            now.add(List.of(start, start));
        }
        Integer answer = null;
        for (int length = 1; answer == null && !now.isEmpty(); length++) {
            List<List<List<Integer>>> next = new ArrayList<>();
            for (List<List<Integer>> pair : now) {
                for (int x = 0; x < g; x++) {
                    for (int y = 0; y < g; y++) {
                        List<Integer> one = new ArrayList<>(pair.get(0));
                        List<Integer> other = new ArrayList<>(pair.get(1));
                        one.add(x);
                        other.add(y);
                        if (one.equals(other) || !table.get(one).equals(table.get(other))) {
                            continue;
                        }
                        one.remove(0);
                        other.remove(0);
                        if (one.equals(other)) {
                            answer = length;
                        } else if (seen.add(one + "/" + other)) {
                            next.add(List.of(one, other));
                        }
                    }
                }
            }
            now = next;
        }
        known.put("diamond", answer);
        return answer;
    }

    boolean isSurjective() {
        return findDiamond() == null;
    }

    int diamond() {
        such(findDiamond() != null);
        return findDiamond();
    }

    /** By the transitive closure of the steps between pairs of nodes. */
    boolean isInjective() {
        if (known.containsKey("injective")) {
            return (Boolean) known.get("injective");
        }
        List<List<Integer>> nodes = words(w - 1);
        int n = nodes.size();
        BitSet[] reach = new BitSet[n * n];
        for (int p = 0; p < n * n; p++) {
            reach[p] = new BitSet();
            for (int x = 0; x < g; x++) {
                for (int y = 0; y < g; y++) {
                    List<Integer> one = new ArrayList<>(nodes.get(p / n));
                    List<Integer> other = new ArrayList<>(nodes.get(p % n));
                    one.add(x);
                    other.add(y);
                    if (table.get(one).equals(table.get(other))) {
                        reach[p].set(number(one.subList(1, w)) * n + number(other.subList(1, w)));
                    }
                }
            }
        }
        for (int k = 0; k < n * n; k++) {
            for (int p = 0; p < n * n; p++) {
                if (reach[p].get(k)) {
                    reach[p].or(reach[k]);
                }
            }
        }
        BitSet cyclic = new BitSet();
        for (int p = 0; p < n * n; p++) {
            cyclic.set(p, reach[p].get(p));
        }
        BitSet fromCycle = (BitSet) cyclic.clone();
        for (int p = cyclic.nextSetBit(0); p >= 0; p = cyclic.nextSetBit(p + 1)) {
            fromCycle.or(reach[p]);
        }
        boolean isInjective = true;
        for (int p = 0; p < n * n; p++) {
            boolean isDoubled = fromCycle.get(p) && reach[p].intersects(cyclic);
            isInjective &= p / n == p % n || !isDoubled;
        }
        known.put("injective", isInjective);
        return isInjective;
    }

    private int number(List<Integer> word) {
        int number = 0;
        for (int x : word) {
            number = number * g + x;
        }
        return number;
    }

    private List<Integer> image(List<Integer> word) {
        List<Integer> image = new ArrayList<>();
        for (int k = 0; k + w <= word.size(); k++) {
            image.add(table.get(word.subList(k, k + w)));
        }
        return image;
    }

    private static final class Found {
        int v = 0;
        int s = 0;
        Map<List<Integer>, Integer> map = new HashMap<>();
    }

    private Found findInverse() {
        if (!known.containsKey("inverse")) {
            known.put("inverse", searchInverse());
        }
        return (Found) known.get("inverse");
    }

    private Found searchInverse() {
        for (int v = 1; v <= 5; v++) {
            if (Math.pow(g, v + w - 1) > 50000) {
                continue;
            }
            List<List<Integer>> all = words(v + w - 1);
            for (int s = 0; s <= v + w - 2; s++) {
                Found found = new Found();
                found.v = v;
                found.s = s;
                boolean isGood = true;
                for (int k = 0; k < all.size() && isGood; k++) {
                    Integer want = all.get(k).get(s);
                    Integer had = found.map.putIfAbsent(image(all.get(k)), want);
                    isGood = had == null || had.equals(want);
                }
                if (isGood) {
                    return found;
                }
            }
        }
        return null;
    }

    int inverse(int what) {
        argument(what >= 0 && what <= 2);
        Found found = findInverse();
        such(found != null);
        return new int[] {found.v, found.s, found.map.size()}[what];
    }

    int inverseOf(int word) {
        Found found = findInverse();
        such(found != null);
        argument(word >= 0);
        String digits = Integer.toString(word);
        argument(digits.length() <= found.v || word == 0);
        List<Integer> states = new ArrayList<>();
        for (int k = digits.length(); k < found.v; k++) {
            states.add(0);
        }
        for (char digit : digits.toCharArray()) {
            argument(digit - '0' < g);
            states.add(digit - '0');
        }
        return found.map.getOrDefault(states, -1);
    }

    // ---- conserved sums: the equations of all rings up to a size

    private BigInteger[][][] basis() {
        if (!known.containsKey("basis")) {
            known.put("basis", searchBasis());
        }
        return (BigInteger[][][]) known.get("basis");
    }

    private BigInteger[][][] searchBasis() {
        // rings with 2 * w - 1 cells are enough; where there are few, more of them are looked at
        int most = g <= 3 ? 2 * w + 1 : 2 * w - 1;
        TreeSet<String> seen = new TreeSet<>();
        List<BigInteger[]> rows = new ArrayList<>();
        for (int size = 1; size <= most; size++) {
            for (List<Integer> cells : words(size)) {
                int[] change = new int[g];
                for (int x : stepOf(cells)) {
                    change[x]++;
                }
                for (int x : cells) {
                    change[x]--;
                }
                if (seen.add(Arrays.toString(change))) {
                    BigInteger[] row = new BigInteger[g];
                    for (int x = 0; x < g; x++) {
                        row[x] = BigInteger.valueOf(change[x]);
                    }
                    rows.add(row);
                }
            }
        }
        return reduced(nullSpace(rows));
    }

    /** Gauss over the whole numbers, the ordinary way from the left. */
    private static int[] eliminate(List<BigInteger[]> rows, int g) {
        int[] pivots = new int[g];
        int rank = 0;
        for (int x = 0; x < g; x++) {
            int from = rank;
            while (from < rows.size() && rows.get(from)[x].signum() == 0) {
                from++;
            }
            if (from == rows.size()) {
                continue;
            }
            BigInteger[] pivot = rows.remove(from);
            rows.add(rank, pivot);
            for (int k = 0; k < rows.size(); k++) {
                BigInteger[] row = rows.get(k);
                BigInteger here = row[x];
                if (k != rank && here.signum() != 0) {
                    for (int y = 0; y < g; y++) {
                        row[y] = row[y].multiply(pivot[x]).subtract(pivot[y].multiply(here));
                    }
                    shrink(row);
                }
            }
            pivots[rank++] = x;
        }
        while (rows.size() > rank) {
            rows.remove(rank);
        }
        return Arrays.copyOf(pivots, rank);
    }

    private static void shrink(BigInteger[] row) {
        BigInteger divisor = BigInteger.ZERO;
        for (BigInteger number : row) {
            divisor = divisor.gcd(number);
        }
        for (int y = 0; y < row.length && divisor.signum() != 0; y++) {
            row[y] = row[y].divide(divisor);
        }
    }

    private List<BigInteger[]> nullSpace(List<BigInteger[]> rows) {
        int[] pivots = eliminate(rows, g);
        List<BigInteger[]> space = new ArrayList<>();
        for (int free = 0; free < g; free++) {
            int x = free;
            if (Arrays.stream(pivots).anyMatch(pivot -> pivot == x)) {
                continue;
            }
            BigInteger common = BigInteger.ONE;
            for (int k = 0; k < pivots.length; k++) {
                common = common.multiply(rows.get(k)[pivots[k]]);
            }
            BigInteger[] vector = new BigInteger[g];
            Arrays.fill(vector, BigInteger.ZERO);
            vector[free] = common;
            for (int k = 0; k < pivots.length; k++) {
                vector[pivots[k]] = rows.get(k)[free].multiply(common).divide(rows.get(k)[pivots[k]]).negate();
            }
            space.add(vector);
        }
        return space;
    }

    private BigInteger[][][] reduced(List<BigInteger[]> space) {
        int[] pivots = eliminate(space, g);
        BigInteger[][][] basis = new BigInteger[pivots.length][g][];
        for (int k = 0; k < pivots.length; k++) {
            for (int x = 0; x < g; x++) {
                basis[k][x] = fraction(space.get(k)[x], space.get(k)[pivots[k]]);
            }
        }
        return basis;
    }

    private static BigInteger[] fraction(BigInteger top, BigInteger bottom) {
        BigInteger divisor = top.gcd(bottom);
        if (bottom.signum() < 0) {
            divisor = divisor.negate();
        }
        return new BigInteger[] {top.divide(divisor), bottom.divide(divisor)};
    }

    int sums() {
        return basis().length;
    }

    long sum(int row, int state, int part) {
        index(row >= 0 && row < sums() && is(state));
        argument(part == 0 || part == 1);
        return basis()[row][state][part].longValueExact();
    }

    long value(int row, int part) {
        index(row >= 0 && row < sums());
        argument(part == 0 || part == 1);
        BigInteger top = BigInteger.ZERO;
        BigInteger bottom = BigInteger.ONE;
        for (int x : ring) {
            BigInteger[] q = basis()[row][x];
            top = top.multiply(q[1]).add(q[0].multiply(bottom));
            bottom = bottom.multiply(q[1]);
        }
        return fraction(top, bottom)[part].longValueExact();
    }

    // ---- the ring

    private List<Integer> stepOf(List<Integer> cells) {
        List<Integer> next = new ArrayList<>();
        int n = cells.size();
        for (int k = 0; k < n; k++) {
            List<Integer> word = new ArrayList<>();
            for (int j = w == 3 ? -1 : 0; j <= 1; j++) {
                word.add(cells.get((k + j + n) % n));
            }
            next.add(table.get(word));
        }
        return next;
    }

    int size() {
        return ring.size();
    }

    int cell(int cell) {
        index(cell >= 0 && cell < ring.size());
        return ring.get(cell);
    }

    int total() {
        int result = 0;
        for (int x : ring) {
            result = times(result, x);
        }
        return result;
    }

    double density() {
        return (double) ring.stream().filter(x -> x != 0).count() / ring.size();
    }

    /** Calls that try all rings are only for rings of few cells. */
    boolean isSmall(int cells) {
        return Math.pow(g, cells) <= 3000;
    }

    long preimages() {
        return words(ring.size()).stream().filter(cells -> stepOf(cells).equals(ring)).count();
    }

    int preimage(int cell) {
        index(cell >= 0 && cell < ring.size());
        for (List<Integer> cells : words(ring.size())) {
            if (stepOf(cells).equals(ring)) {
                return cells.get(cell);
            }
        }
        throw new NoSuchElementException();
    }

    int cycle(int what) {
        argument(what == 0 || what == 1);
        Map<List<Integer>, Integer> first = new HashMap<>();
        List<Integer> now = ring;
        for (int k = 0; k <= 1000; k++) {
            Integer before = first.putIfAbsent(now, k);
            if (before != null) {
                return what == 0 ? before : k - before;
            }
            now = stepOf(now);
        }
        throw new NoSuchElementException();
    }

    long fixed(int cells) {
        argument(cells >= 1 && cells <= 16);
        return words(cells).stream().filter(one -> stepOf(one).equals(one)).count();
    }

    long kernel(int cells) {
        argument(cells >= 1 && cells <= 16);
        return words(cells).stream().filter(one -> stepOf(one).stream().allMatch(x -> x == 0)).count();
    }

    // ---- changes

    private void remember() {
        undos.addLast(new Object[] {table, ring});
        if (undos.size() > 10) {
            undos.removeFirst();
        }
    }

    private int replace(List<Integer> next) {
        int moved = 0;
        for (int k = 0; k < next.size(); k++) {
            moved += next.get(k).equals(ring.get(k)) ? 0 : 1;
        }
        remember();
        ring = next;
        return moved;
    }

    int step(int steps) {
        argument(steps >= 1 && steps <= 100);
        List<Integer> next = ring;
        for (int k = 0; k < steps; k++) {
            next = stepOf(next);
        }
        return replace(next);
    }

    int back(int steps) {
        argument(steps >= 1 && steps <= 100);
        Found found = findInverse();
        such(found != null);
        List<Integer> now = ring;
        int n = ring.size();
        for (int made = 0; made < steps; made++) {
            Integer[] old = new Integer[n];
            for (int begin = 0; begin < n; begin++) {
                List<Integer> fresh = new ArrayList<>();
                for (int j = 0; j < found.v; j++) {
                    // a word of old cells that begins at a cell gives the new state of that cell, or of the next one
                    fresh.add(now.get((begin + j + w - 2) % n));
                }
                state(found.map.containsKey(fresh));
                old[(begin + found.s) % n] = found.map.get(fresh);
            }
            now = Arrays.asList(old);
        }
        return replace(now);
    }

    int set(int cell, int state) {
        index(cell >= 0 && cell < ring.size() && is(state));
        remember();
        ring = new ArrayList<>(ring);
        return ring.set(cell, state);
    }

    int grow(int state) {
        index(is(state));
        state(ring.size() < 16);
        remember();
        ring = new ArrayList<>(ring);
        ring.add(state);
        return ring.size();
    }

    int rotate(int by) {
        List<Integer> next = new ArrayList<>();
        for (int k = 0; k < ring.size(); k++) {
            next.add(ring.get((int) Math.floorMod((long) k + by, (long) ring.size())));
        }
        replace(next);
        return ring.get(0);
    }

    int keep(int slot) {
        index(slot == 0 || slot == 1);
        slots.set(slot, ring);
        return ring.size();
    }

    int multiply(int slot) {
        index(slot == 0 || slot == 1);
        List<Integer> factor = slots.get(slot);
        such(factor != null);
        state(factor.size() == ring.size());
        List<Integer> next = new ArrayList<>();
        for (int k = 0; k < ring.size(); k++) {
            next.add(times(ring.get(k), factor.get(k)));
        }
        replace(next);
        return total();
    }

    @SuppressWarnings("unchecked")
    int undo() {
        state(!undos.isEmpty());
        Object[] before = undos.removeLast();
        if (table != before[0]) {
            known.clear();
        }
        table = (Map<List<Integer>, Integer>) before[0];
        ring = (List<Integer>) before[1];
        return undos.size();
    }
}
