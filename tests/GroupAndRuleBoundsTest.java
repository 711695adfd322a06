/**
 * The bounds in "Groups", "Rules" and in promises 7 to 18: of each sentence that names one, the last value that is
 * right and the first one beyond it.
 */
public final class GroupAndRuleBoundsTest {
    private static final String[] GROUPS = {"cyclic 2", "cyclic 3", "cyclic 4", "cyclic 5", "cyclic 6", "klein", "sym"};
    private static final int[] ORDERS = {2, 3, 4, 5, 6, 4, 6};
    private static final String REST = ";width 2;word a;ring 0;";

    private GroupAndRuleBoundsTest() {
    }

    public static void main(String[] args) {
        for (int k = 0; k < GROUPS.length; k++) {
            order(GROUPS[k], ORDERS[k]);
            products(GROUPS[k], ORDERS[k]);
            elements(GROUPS[k], ORDERS[k]);
            whats(GROUPS[k], ORDERS[k]);
            sets(GROUPS[k], ORDERS[k]);
            spans(GROUPS[k], ORDERS[k]);
            rules(GROUPS[k], ORDERS[k]);
            wordCounts(GROUPS[k], ORDERS[k]);
            setCaseStates(GROUPS[k], ORDERS[k]);
            setCaseOfEachWord(GROUPS[k], ORDERS[k]);
        }
        permutationsOfSym();
        ordersOfElements();
        wholeAndLeastSubgroup();
        anyNumberIfTheWidthIs2();
        termsInTheirOrder();
        minusSigns();
        caseReplacesForOneWord();
        homomorphismButForOneWord();
        permutiveButForOneWord();
        permutiveBySides();
        closedButForOneWord();
        setCaseIsAChange();
        Checks.end();
    }

    private static GroupAutomaton rule(String text) {
        return Checks.automaton(text + ";ring 0;");
    }

    private static int[] beside(int least, int greatest) {
        return new int[] {least - 1, greatest + 1, greatest + 2, Integer.MIN_VALUE, Integer.MAX_VALUE};
    }

    // ---- the group

    private static void order(String group, int g) {
        Checks.due("order of " + group, Checks.automaton(group + REST).order(), g);
    }

    /** Promise 8: "if there is no such element"; "0 is the neutral element". */
    private static void products(String group, int g) {
        GroupAutomaton x = Checks.automaton(group + REST);
        for (int a = 0; a < g; a++) {
            int element = a;
            Checks.due("0 * x in " + group, x.product(0, a), a);
            Checks.due("x * 0 in " + group, x.product(a, 0), a);
            for (int wrong : beside(0, g - 1)) {
                Checks.index(group + " product", () -> x.product(wrong, element));
                Checks.index(group + " product", () -> x.product(element, wrong));
            }
        }
        for (int wrong : beside(0, g - 1)) {
            Checks.index(group + " product", () -> x.product(wrong, wrong));
        }
        int last = x.product(g - 1, g - 1);
        Checks.due("the last product in " + group, last, group.startsWith("cyclic") ? g - 2 : 0);
    }

    /** Promise 9: "if there is no such element", whatever what is. */
    private static void elements(String group, int g) {
        GroupAutomaton x = Checks.automaton(group + REST);
        for (int what = -1; what <= 4; what++) {
            int asked = what;
            for (int wrong : beside(0, g - 1)) {
                Checks.index(group + " element by " + what, () -> x.element(wrong, asked));
            }
        }
        Checks.due("the inverse of 0", x.element(0, 0), 0);
        Checks.due("the order of 0", x.element(0, 1), 1);
        Checks.due("what commutes with 0", x.element(0, 2), (1 << g) - 1);
        Checks.due("the conjugates of 0", x.element(0, 3), 1);
        for (int a = 0; a < g; a++) {
            Checks.due("x * x- in " + group, x.product(a, x.element(a, 0)), 0);
            Checks.due("x- * x in " + group, x.product(x.element(a, 0), a), 0);
        }
    }

    /** Promise 9: "if what is out of range". */
    private static void whats(String group, int g) {
        GroupAutomaton x = Checks.automaton(group + REST);
        for (int a = 0; a < g; a++) {
            int element = a;
            for (int wrong : beside(0, 3)) {
                Checks.argument(group + " element by " + wrong, () -> x.element(element, wrong));
            }
            for (int what = 0; what <= 3; what++) {
                Checks.due(group + " element by " + what, x.element(a, what) >= 0, true);
            }
        }
    }

    /** Promise 10: "if the set contains something that is no element"; "a set of elements, which may be empty". */
    private static void sets(String group, int g) {
        GroupAutomaton x = Checks.automaton(group + REST);
        int all = (1 << g) - 1;
        Checks.due(group + " the empty set", x.generated(0), 1);
        Checks.due(group + " just the neutral element", x.generated(1), 1);
        Checks.due(group + " the whole set", x.generated(all), all);
        Checks.due(group + " the whole set but 0", x.generated(all - 1), all);
        for (int bit = g; bit < 32; bit++) {
            int beyond = 1 << bit;
            Checks.argument(group + " bit " + bit, () -> x.generated(beyond));
            Checks.argument(group + " bit " + bit + " too", () -> x.generated(beyond | 1));
        }
        Checks.argument(group + " all bits", () -> x.generated(-1));
        Checks.argument(group + " all bits but the sign", () -> x.generated(Integer.MAX_VALUE));
    }

    /** Promise 10, for all sets: the least set around it that is closed. */
    private static void spans(String group, int g) {
        GroupAutomaton x = Checks.automaton(group + REST);
        int[] products = new int[g * g];
        for (int k = 0; k < g * g; k++) {
            products[k] = x.product(k / g, k % g);
        }
        for (int set = 0; set < 1 << g; set++) {
            int due = set | 1;
            for (int round = 0; round < g; round++) {
                for (int k = 0; k < g * g; k++) {
                    if ((due >> k / g & due >> k % g & 1) != 0) {
                        due |= 1 << products[k];
                    }
                }
            }
            Checks.due(group + " generated(" + set + ")", x.generated(set), due);
        }
    }

    /** "The elements 0 to 5 are the permutations .. applies y first and then x." */
    private static void permutationsOfSym() {
        String[] due = {"012345", "104523", "230154", "325401", "451032", "543210"};
        GroupAutomaton x = Checks.automaton("sym" + REST);
        for (int a = 0; a < 6; a++) {
            for (int b = 0; b < 6; b++) {
                Checks.due("sym: " + a + " * " + b, x.product(a, b), due[a].charAt(b) - '0');
            }
        }
    }

    /** "The least number of factors x, from 1 on, whose product is 0." */
    private static void ordersOfElements() {
        int[][] due = {{1, 2}, {1, 3, 3}, {1, 4, 2, 4}, {1, 5, 5, 5, 5}, {1, 6, 3, 2, 3, 6}, {1, 2, 2, 2},
            {1, 2, 2, 3, 3, 2}};
        for (int k = 0; k < GROUPS.length; k++) {
            GroupAutomaton x = Checks.automaton(GROUPS[k] + REST);
            for (int a = 0; a < ORDERS[k]; a++) {
                Checks.due("order of " + a + " in " + GROUPS[k], x.element(a, 1), due[k][a]);
            }
        }
    }

    /** Promise 11: "the whole group and the one with just the neutral element included". */
    private static void wholeAndLeastSubgroup() {
        int[] due = {2, 2, 3, 2, 4, 5, 6};
        for (int k = 0; k < GROUPS.length; k++) {
            Checks.due("subgroups of " + GROUPS[k], Checks.automaton(GROUPS[k] + REST).subgroups(), due[k]);
        }
    }

    // ---- the rule

    /** Promise 12: "if one of the states that count is no element". */
    private static void rules(String group, int g) {
        GroupAutomaton two = rule(group + ";width 2;word b");
        GroupAutomaton three = rule(group + ";width 3;word c");
        Checks.due(group + " the last word", two.rule(g - 1, g - 1, 0), g - 1);
        Checks.due(group + " the last word", three.rule(g - 1, g - 1, g - 1), g - 1);
        Checks.due(group + " the first word", two.rule(0, 0, 0), 0);
        for (int wrong : beside(0, g - 1)) {
            Checks.index(group + " rule", () -> two.rule(wrong, g - 1, 0));
            Checks.index(group + " rule", () -> two.rule(g - 1, wrong, 0));
            Checks.index(group + " rule", () -> two.rule(wrong, wrong, 0));
            Checks.index(group + " rule", () -> three.rule(wrong, g - 1, g - 1));
            Checks.index(group + " rule", () -> three.rule(g - 1, wrong, g - 1));
            Checks.index(group + " rule", () -> three.rule(g - 1, g - 1, wrong));
            Checks.index(group + " rule", () -> three.rule(0, 0, wrong));
        }
    }

    /** Promises 12 and 18: "any number if the width is 2". */
    private static void anyNumberIfTheWidthIs2() {
        GroupAutomaton x = rule("cyclic 3;width 2;word a*b*b");
        for (int c : new int[] {-1, 0, 2, 3, 6, Integer.MIN_VALUE, Integer.MAX_VALUE}) {
            Checks.due("rule with " + c, x.rule(2, 1, c), 1);
            Checks.due("rule with " + c, x.rule(0, 2, c), 1);
            Checks.due("setCase with " + c, x.setCase(0, 1, c, 0), 2);
            Checks.due("rule after it", x.rule(0, 1, 0), 0);
            Checks.due("setCase back with " + c, x.setCase(0, 1, c, 2), 0);
            Checks.index("a wrong state, and " + c, () -> x.rule(3, 0, c));
            Checks.index("a wrong state, and " + c, () -> x.setCase(0, -1, c, 0));
        }
    }

    /** "The product of the terms of the rule's group word in their order", where the order counts. */
    private static void termsInTheirOrder() {
        Checks.due("1 * 2", rule("sym;width 2;word 1*2").rule(5, 5, 0), 4);
        Checks.due("2 * 1", rule("sym;width 2;word 2*1").rule(5, 5, 0), 3);
        Checks.due("a * b", rule("sym;width 2;word a*b").rule(1, 2, 0), 4);
        Checks.due("b * a", rule("sym;width 2;word b*a").rule(1, 2, 0), 3);
        Checks.due("c * a", rule("sym;width 3;word c*a").rule(1, 0, 2), 3);
        Checks.due("a * b * c", rule("sym;width 3;word a*b*c").rule(1, 2, 5), 2);
        Checks.due("c * b * a", rule("sym;width 3;word c*b*a").rule(5, 2, 1), 2);
        Checks.due("8 terms", rule("sym;width 3;word a*b*c*1*a*b*c*2").rule(1, 2, 5), 3);
        Checks.due("one term", rule("sym;width 3;word b").rule(1, 2, 5), 2);
    }

    /** "A term with a minus sign stands for its inverse." */
    private static void minusSigns() {
        Checks.due("3-", rule("sym;width 2;word 3-").rule(0, 0, 0), 4);
        Checks.due("a- of 4", rule("sym;width 2;word a-").rule(4, 0, 0), 3);
        Checks.due("3- * 1", rule("sym;width 2;word 3-*1").rule(0, 0, 0), 5);
        Checks.due("3 * 1-", rule("sym;width 2;word 3*1-").rule(0, 0, 0), 2);
        Checks.due("b- in cyclic 6", rule("cyclic 6;width 2;word b-").rule(0, 5, 0), 1);
        Checks.due("0-", rule("cyclic 6;width 2;word 0-*b-").rule(0, 0, 0), 0);
    }

    /** "A case replaces the state for one word." */
    private static void caseReplacesForOneWord() {
        for (int word = 0; word < 27; word++) {
            int a = word / 9;
            int b = word / 3 % 3;
            int c = word % 3;
            int state = (b + 1) % 3;
            GroupAutomaton x = rule("cyclic 3;width 3;word b;case " + a + " " + b + " " + c + "=" + state);
            for (int other = 0; other < 27; other++) {
                Checks.due("case for " + word + " at " + other, x.rule(other / 9, other / 3 % 3, other % 3),
                        other == word ? state : other / 3 % 3);
            }
        }
    }

    /** Promise 14: "if there is no such state". */
    private static void wordCounts(String group, int g) {
        GroupAutomaton x = rule(group + ";width 2;word " + (g - 1));
        GroupAutomaton y = rule(group + ";width 3;word a;case 0 0 0=" + (g - 1));
        for (int wrong : beside(0, g - 1)) {
            Checks.index(group + " words", () -> x.words(wrong));
            Checks.index(group + " words", () -> y.words(wrong));
        }
        Checks.due(group + " all words", x.words(g - 1), g * g);
        Checks.due(group + " no word", x.words(0), 0);
        Checks.due(group + " a word less", y.words(0), g * g - 1);
        Checks.due(group + " a word more", y.words(g - 1), g * g + 1);
    }

    /** Promise 15: "is always the product": for one pair of words it is not. */
    private static void homomorphismButForOneWord() {
        for (int w = 2; w <= 3; w++) {
            String text = "cyclic 3;width " + w + ";word a*a*b";
            Checks.due(text, rule(text).isHomomorphism(), true);
            for (int word = 0; word < (w == 2 ? 9 : 27); word++) {
                int a = w == 2 ? word / 3 : word / 9;
                int b = w == 2 ? word % 3 : word / 3 % 3;
                GroupAutomaton x = rule(text);
                int given = x.setCase(a, b, word % 3, (2 * a + b + 1) % 3);
                Checks.due(text + " but for " + word, x.isHomomorphism(), false);
                x.setCase(a, b, word % 3, given);
                Checks.due(text + " again", x.isHomomorphism(), true);
            }
        }
        Checks.due("sym a*b", rule("sym;width 2;word a*b").isHomomorphism(), false);
        Checks.due("sym 0", rule("sym;width 2;word 0").isHomomorphism(), true);
        Checks.due("sym 1", rule("sym;width 2;word 1").isHomomorphism(), false);
        Checks.due("klein a*b*c", rule("klein;width 3;word a*b*c").isHomomorphism(), true);
        // onto the sign: 1, 2 and 5 become 1, the even ones 0
        Checks.due("sym signs", rule("sym;width 2;word 0;case 1 0=1").isHomomorphism(), false);
        GroupAutomaton signs = Checks.table("sym", 2, "000000111111111111000000000000111111", "0");
        Checks.due("the sign of a", signs.isHomomorphism(), true);
        signs.setCase(5, 5, 0, 0);
        Checks.due("the sign of a but for a word", signs.isHomomorphism(), false);
    }

    /** Promise 16: "always different states": for one word they are the same. */
    private static void permutiveButForOneWord() {
        for (int w = 2; w <= 3; w++) {
            String text = "cyclic 3;width " + w + ";word a*a*" + (w == 2 ? "b" : "b*c");
            for (int word = 0; word < (w == 2 ? 9 : 27); word++) {
                int a = w == 2 ? word / 3 : word / 9;
                int b = w == 2 ? word % 3 : word / 3 % 3;
                GroupAutomaton x = rule(text);
                Checks.due(text + " left", x.isPermutive(false), true);
                Checks.due(text + " right", x.isPermutive(true), true);
                x.setCase(a, b, word % 3, (x.rule(a, b, word % 3) + 1) % 3);
                Checks.due(text + " left but for " + word, x.isPermutive(false), false);
                Checks.due(text + " right but for " + word, x.isPermutive(true), false);
            }
        }
    }

    /** Promise 16: "different first (or last) states", "if the other states of the word are the same". */
    private static void permutiveBySides() {
        String[] texts = {"cyclic 5;width 2;word a", "cyclic 5;width 2;word b", "cyclic 5;width 3;word a",
            "cyclic 5;width 3;word b", "cyclic 5;width 3;word c", "cyclic 2;width 3;word a*c", "klein;width 2;word 3"};
        String due = "10 01 10 00 01 11 00";
        for (int k = 0; k < texts.length; k++) {
            GroupAutomaton x = rule(texts[k]);
            Checks.due(texts[k] + " left", x.isPermutive(false), due.charAt(3 * k) == '1');
            Checks.due(texts[k] + " right", x.isPermutive(true), due.charAt(3 * k + 1) == '1');
        }
    }

    /** Promise 17: "for each word of elements of this subgroup": for one word it is not. */
    private static void closedButForOneWord() {
        // in cyclic 6 the subgroups are those of 0; 3; 2 and 4; 1 and 5
        int[] subgroups = {0b1, 0b1001, 0b10101};
        int[] makers = {0b1, 0b1000, 0b10100};
        for (int word = 0; word < 36; word++) {
            int a = word / 6;
            int b = word % 6;
            GroupAutomaton x = rule("cyclic 6;width 2;word a*b;case " + a + " " + b + "=1");
            int due = 0b100010;
            for (int k = 0; k < 3; k++) {
                boolean isInside = (subgroups[k] >> a & subgroups[k] >> b & 1) != 0;
                due |= isInside ? 0 : makers[k];
            }
            Checks.due("closed but for " + word, x.closed(), due);
        }
        Checks.due("closed", rule("sym;width 3;word a*b-*c").closed(), 63);
        Checks.due("closed without 0", rule("sym;width 3;word a*b-*c;case 0 0 0=5").closed(), 0b100000);
        Checks.due("closed at the last word", rule("sym;width 3;word a*b-*c;case 5 5 5=1").closed(), 0b011111);
        Checks.due("none is closed", rule("sym;width 2;word 0;case 0 0=1;case 1 1=2").closed(), 0);
    }

    /** Promise 18: "if one of the states that count is no element". */
    private static void setCaseStates(String group, int g) {
        GroupAutomaton two = rule(group + ";width 2;word b");
        GroupAutomaton three = rule(group + ";width 3;word c");
        for (int wrong : beside(0, g - 1)) {
            Checks.index(group + " setCase", () -> two.setCase(wrong, 0, 0, 0));
            Checks.index(group + " setCase", () -> two.setCase(0, wrong, 0, 0));
            Checks.index(group + " setCase", () -> two.setCase(0, 0, 0, wrong));
            Checks.index(group + " setCase", () -> three.setCase(wrong, 0, 0, 0));
            Checks.index(group + " setCase", () -> three.setCase(0, wrong, 0, 0));
            Checks.index(group + " setCase", () -> three.setCase(0, 0, wrong, 0));
            Checks.index(group + " setCase", () -> three.setCase(0, 0, 0, wrong));
        }
        Checks.state(group + " nothing was changed", two::undo);
        Checks.state(group + " nothing was changed", three::undo);
        Checks.due(group + " setCase", two.setCase(g - 1, g - 1, 0, 0), g - 1);
        Checks.due(group + " setCase", two.setCase(g - 1, g - 1, 0, g - 1), 0);
        Checks.due(group + " setCase", three.setCase(g - 1, g - 1, g - 1, 0), g - 1);
        Checks.due(group + " setCase", three.setCase(g - 1, g - 1, g - 1, g - 1), 0);
        Checks.due(group + " setCase", three.setCase(0, 0, 0, g - 1), 0);
        Checks.due(group + " rule", three.rule(0, 0, 0), g - 1);
    }

    /** Promise 18: "Sets the state for a word", each of them; the others stay. */
    private static void setCaseOfEachWord(String group, int g) {
        GroupAutomaton x = rule(group + ";width 2;word b");
        for (int word = 0; word < g * g; word++) {
            Checks.due(group + " previous state", x.setCase(word / g, word % g, -1, word / g), word % g);
        }
        for (int word = 0; word < g * g; word++) {
            Checks.due(group + " new state", x.rule(word / g, word % g, -1), word / g);
        }
        Checks.due(group + " left", x.isPermutive(false), true);
        Checks.due(group + " right", x.isPermutive(true), false);
    }

    /** Promise 18: "This is a change", also for a word that has a case already, and more often than there are cases. */
    private static void setCaseIsAChange() {
        GroupAutomaton x = rule("cyclic 4;width 2;word a;case 0 1=3;case 0 2=3");
        Checks.due("a case again", x.setCase(0, 1, 0, 2), 3);
        Checks.due("undo", x.undo(), 0);
        Checks.due("the case of the text", x.rule(0, 1, 0), 3);
        for (int word = 0; word < 16; word++) {
            x.setCase(word / 4, word % 4, 0, 1);
        }
        Checks.due("16 cases", x.words(1), 16);
        for (int left = 9; left >= 0; left--) {
            Checks.due("undo", x.undo(), left);
        }
        Checks.state("undo", x::undo);
        Checks.due("6 cases", x.words(1), 6 + 2);
        Checks.due("the 6th", x.rule(1, 1, 0), 1);
        Checks.due("the 7th", x.rule(1, 2, 0), 1);
        Checks.due("the 9th", x.rule(2, 0, 0), 2);
    }
}
