/** Promises 12 to 18: the rule. */
public final class RuleTest {
    private RuleTest() {
    }

    public static void main(String[] args) {
        termsInOrder();
        inverseTerms();
        cases();
        wrongStates();
        wordCounts();
        homomorphisms();
        permutive();
        closed();
        setCase();
        Checks.end();
    }

    private static GroupAutomaton rule(String text) {
        return Checks.automaton(text + ";ring 0;");
    }

    private static void termsInOrder() {
        GroupAutomaton x = rule("sym;width 3;word a*b*c*3");
        GroupAutomaton y = rule("sym;width 2;word b*a");
        Checks.due("width 3", x.width(), 3);
        Checks.due("width 2", y.width(), 2);
        int[] products = new int[36];
        for (int k = 0; k < 36; k++) {
            products[k] = y.product(k / 6, k % 6);
        }
        for (int a = 0; a < 6; a++) {
            for (int b = 0; b < 6; b++) {
                Checks.due("b*a", y.rule(a, b, 17), products[6 * b + a]);
                for (int c = 0; c < 6; c++) {
                    int ab = products[6 * a + b];
                    int abc = products[6 * ab + c];
                    Checks.due("a*b*c*3", x.rule(a, b, c), products[6 * abc + 3]);
                }
            }
        }
    }

    private static void inverseTerms() {
        GroupAutomaton x = rule("sym;width 2;word a-*b*3-");
        for (int a = 0; a < 6; a++) {
            for (int b = 0; b < 6; b++) {
                Checks.due("a-*b*3-", x.rule(a, b, -1), x.product(x.product(x.element(a, 0), b), 4));
            }
        }
    }

    private static void cases() {
        GroupAutomaton x = rule("cyclic 3;width 3;word c;case 0 1 2=0;case 2 1 0=1");
        Checks.due("a case", x.rule(0, 1, 2), 0);
        Checks.due("a case", x.rule(2, 1, 0), 1);
        Checks.due("no case", x.rule(1, 0, 2), 2);
        Checks.due("no case", x.rule(1, 2, 0), 0);
    }

    private static void wrongStates() {
        GroupAutomaton two = rule("cyclic 3;width 2;word a");
        GroupAutomaton three = rule("cyclic 3;width 3;word a");
        for (int wrong : new int[] {-1, 3, Integer.MIN_VALUE, Integer.MAX_VALUE}) {
            Checks.index("rule", () -> two.rule(wrong, 0, 0));
            Checks.index("rule", () -> two.rule(0, wrong, 0));
            Checks.due("rule of width 2", two.rule(1, 2, wrong), 1);
            Checks.index("rule", () -> three.rule(wrong, 0, 0));
            Checks.index("rule", () -> three.rule(0, wrong, 0));
            Checks.index("rule", () -> three.rule(0, 0, wrong));
            Checks.index("words", () -> two.words(wrong));
            Checks.index("setCase", () -> two.setCase(wrong, 0, 0, 0));
            Checks.index("setCase", () -> two.setCase(0, wrong, 0, 0));
            Checks.index("setCase", () -> two.setCase(0, 0, 0, wrong));
            Checks.index("setCase", () -> three.setCase(0, 0, wrong, 0));
            Checks.index("setCase", () -> three.setCase(0, 0, 0, wrong));
        }
        Checks.state("a wrong setCase is no change", two::undo);
    }

    private static void wordCounts() {
        GroupAutomaton x = rule("cyclic 3;width 3;word b;case 1 1 1=0;case 0 1 1=0;case 0 2 0=0");
        Checks.due("words(0)", x.words(0), 12);
        Checks.due("words(1)", x.words(1), 7);
        Checks.due("words(2)", x.words(2), 8);
        GroupAutomaton constant = rule("sym;width 2;word 5");
        Checks.due("words of a constant", constant.words(5), 36);
        Checks.due("words of a constant", constant.words(0), 0);
    }

    private static void homomorphisms() {
        homomorphism("cyclic 6;width 3;word a*b-*c*c", true);
        homomorphism("cyclic 6;width 3;word a*b-*c*c*1", false);
        homomorphism("cyclic 6;width 2;word 0", true);
        homomorphism("cyclic 2;width 2;word 1", false);
        homomorphism("klein;width 2;word a*b", true);
        homomorphism("sym;width 2;word a*b", false);
        homomorphism("sym;width 2;word a", true);
        homomorphism("sym;width 2;word a-", false);
        homomorphism("sym;width 3;word 2*c*2", true);
        homomorphism("sym;width 3;word 3*b*4", true);
        homomorphism("cyclic 4;width 2;word a*b;case 3 3=0", false);
        homomorphism("cyclic 4;width 2;word a*b;case 2 3=0", false);
        homomorphism("cyclic 4;width 2;word a*b;case 2 3=1", true);
    }

    private static void homomorphism(String text, boolean due) {
        Checks.due(text, rule(text).isHomomorphism(), due);
    }

    private static void permutive() {
        sides("cyclic 6;width 3;word a*b*c*c", true, false);
        sides("cyclic 6;width 3;word a*a*b*c", false, true);
        sides("cyclic 5;width 2;word a*b*b", true, true);
        sides("sym;width 2;word a*b*3", true, true);
        sides("cyclic 3;width 3;word b", false, false);
        sides("cyclic 3;width 2;word a;case 0 2=1", false, false);
        sides("cyclic 3;width 2;word a;case 0 2=1;case 1 2=0", true, false);
        sides("cyclic 3;width 2;word b;case 2 0=1;case 2 1=0", false, true);
    }

    private static void sides(String text, boolean left, boolean right) {
        GroupAutomaton x = rule(text);
        Checks.due(text + " left", x.isPermutive(false), left);
        Checks.due(text + " right", x.isPermutive(true), right);
    }

    private static void closed() {
        closed("cyclic 6;width 2;word a*b", 63);
        closed("cyclic 6;width 2;word a*3", 0b101010);
        closed("cyclic 6;width 2;word a*b;case 3 3=1", 0b110111);
        closed("cyclic 6;width 2;word 1", 0b100010);
        closed("klein;width 2;word b*2", 0b0100);
        closed("sym;width 3;word a*b*c;case 0 0 0=1", 0b000010);
        closed("sym;width 3;word c-*b", 63);
    }

    private static void closed(String text, int due) {
        Checks.due(text + " closed", rule(text).closed(), due);
    }

    private static void setCase() {
        GroupAutomaton x = rule("cyclic 3;width 2;word a");
        Checks.due("previous state", x.setCase(1, 2, 99, 0), 1);
        Checks.due("new state", x.rule(1, 2, 0), 0);
        Checks.due("another word", x.rule(2, 1, 0), 2);
        Checks.due("previous state again", x.setCase(1, 2, -99, 2), 0);
        Checks.due("words", x.words(2), 4);
        Checks.due("it is a change", x.undo(), 1);
        Checks.due("undone", x.rule(1, 2, 0), 0);
        Checks.due("it is a change", x.undo(), 0);
        Checks.due("undone", x.rule(1, 2, 0), 1);
        GroupAutomaton y = rule("cyclic 2;width 3;word a");
        Checks.due("previous state", y.setCase(0, 1, 1, 1), 0);
        Checks.due("new state", y.rule(0, 1, 1), 1);
        Checks.due("another word", y.rule(0, 1, 0), 0);
        Checks.due("the same state", y.setCase(0, 1, 1, 1), 1);
        Checks.due("is a change too", y.undo(), 1);
        cachesAreLetGo();
    }

    private static void cachesAreLetGo() {
        GroupAutomaton x = rule("cyclic 2;width 2;word a");
        Checks.due("injective", x.isInjective(), true);
        Checks.due("inverse", x.inverse(0), 1);
        Checks.due("sums", x.sums(), 2);
        x.setCase(0, 0, 0, 1);
        Checks.due("injective", x.isInjective(), false);
        Checks.due("surjective", x.isSurjective(), false);
        Checks.none("inverse", () -> x.inverse(0));
        Checks.due("sums", x.sums(), 1);
        x.undo();
        Checks.due("injective", x.isInjective(), true);
        Checks.due("surjective", x.isSurjective(), true);
        Checks.due("inverse", x.inverse(0), 1);
        Checks.due("sums", x.sums(), 2);
        Checks.write(x, "cyclic 2;width 2;word 0;ring 0;");
        x.load();
        Checks.due("injective", x.isInjective(), false);
        Checks.none("inverse", () -> x.inverse(0));
        Checks.due("sums", x.sums(), 1);
    }
}
