/** Promises 7 to 11: the group. */
public final class GroupTest {
    private static final String REST = ";width 2;word a;ring 0;";
    private static final String[] PERMUTATIONS = {"012", "021", "102", "120", "201", "210"};

    private GroupTest() {
    }

    public static void main(String[] args) {
        for (int n = 2; n <= 6; n++) {
            cyclic(n);
        }
        klein();
        sym();
        elementsOfSym();
        elementsOfCyclic();
        wrongInputs();
        generated();
        subgroups();
        Checks.end();
    }

    private static void cyclic(int n) {
        GroupAutomaton x = Checks.automaton("cyclic " + n + REST);
        Checks.due("order of cyclic", x.order(), n);
        for (int a = 0; a < n; a++) {
            Checks.due("inverse in cyclic " + n, x.element(a, 0), (n - a) % n);
            Checks.due("commuting in cyclic " + n, x.element(a, 2), (1 << n) - 1);
            Checks.due("conjugates in cyclic " + n, x.element(a, 3), 1 << a);
            for (int b = 0; b < n; b++) {
                Checks.due("product in cyclic " + n, x.product(a, b), (a + b) % n);
            }
        }
    }

    private static void klein() {
        GroupAutomaton x = Checks.automaton("klein" + REST);
        Checks.due("order of klein", x.order(), 4);
        for (int a = 0; a < 4; a++) {
            Checks.due("inverse in klein", x.element(a, 0), a);
            Checks.due("order in klein", x.element(a, 1), a == 0 ? 1 : 2);
            for (int b = 0; b < 4; b++) {
                Checks.due("product in klein", x.product(a, b), a ^ b);
            }
        }
    }

    private static void sym() {
        GroupAutomaton x = Checks.automaton("sym" + REST);
        Checks.due("order of sym", x.order(), 6);
        for (int a = 0; a < 6; a++) {
            for (int b = 0; b < 6; b++) {
                String product = PERMUTATIONS[x.product(a, b)];
                for (int k = 0; k < 3; k++) {
                    int ofFirst = PERMUTATIONS[b].charAt(k) - '0';
                    Checks.due("image in sym", product.charAt(k), PERMUTATIONS[a].charAt(ofFirst));
                }
            }
        }
    }

    private static void elementsOfSym() {
        GroupAutomaton x = Checks.automaton("sym" + REST);
        int[][] due = {{0, 1, 2, 4, 3, 5}, {1, 2, 2, 3, 3, 2}, {63, 3, 5, 25, 25, 33}, {1, 38, 38, 24, 24, 38}};
        for (int what = 0; what < 4; what++) {
            for (int a = 0; a < 6; a++) {
                Checks.due("element(" + a + ", " + what + ") of sym", x.element(a, what), due[what][a]);
            }
        }
    }

    private static void elementsOfCyclic() {
        GroupAutomaton x = Checks.automaton("cyclic 6" + REST);
        int[] orders = {1, 6, 3, 2, 3, 6};
        for (int a = 0; a < 6; a++) {
            Checks.due("order in cyclic 6", x.element(a, 1), orders[a]);
        }
    }

    private static void wrongInputs() {
        GroupAutomaton x = Checks.automaton("cyclic 5" + REST);
        for (int wrong : new int[] {-1, 5, 6, Integer.MIN_VALUE, Integer.MAX_VALUE}) {
            Checks.index("product of " + wrong, () -> x.product(wrong, 0));
            Checks.index("product by " + wrong, () -> x.product(0, wrong));
            Checks.index("element " + wrong, () -> x.element(wrong, 0));
            Checks.index("element " + wrong + " and what", () -> x.element(wrong, 9));
        }
        for (int wrong : new int[] {-1, 4, Integer.MIN_VALUE, Integer.MAX_VALUE}) {
            Checks.argument("what " + wrong, () -> x.element(4, wrong));
        }
        for (int wrong : new int[] {-1, 32, 33, 64, Integer.MIN_VALUE, Integer.MIN_VALUE + 1, Integer.MAX_VALUE}) {
            Checks.argument("set " + wrong, () -> x.generated(wrong));
        }
        Checks.due("the whole set", x.generated(31), 31);
    }

    private static void generated() {
        GroupAutomaton cyclic = Checks.automaton("cyclic 6" + REST);
        int[][] due = {{0, 1}, {1, 1}, {2, 63}, {4, 21}, {8, 9}, {16, 21}, {32, 63}, {12, 63}, {9, 9}, {5, 21}, {63, 63}};
        for (int[] pair : due) {
            Checks.due("generated(" + pair[0] + ") in cyclic 6", cyclic.generated(pair[0]), pair[1]);
        }
        GroupAutomaton klein = Checks.automaton("klein" + REST);
        Checks.due("generated(0) in klein", klein.generated(0), 1);
        Checks.due("generated(4) in klein", klein.generated(4), 5);
        Checks.due("generated(12) in klein", klein.generated(12), 15);
        GroupAutomaton sym = Checks.automaton("sym" + REST);
        Checks.due("generated(8) in sym", sym.generated(8), 25);
        Checks.due("generated(36) in sym", sym.generated(36), 63);
        Checks.due("generated(24) in sym", sym.generated(24), 25);
    }

    private static void subgroups() {
        String[] groups = {"cyclic 2", "cyclic 3", "cyclic 4", "cyclic 5", "cyclic 6", "klein", "sym"};
        int[] due = {2, 2, 3, 2, 4, 5, 6};
        for (int k = 0; k < groups.length; k++) {
            Checks.due("subgroups of " + groups[k], Checks.automaton(groups[k] + REST).subgroups(), due[k]);
        }
    }
}
