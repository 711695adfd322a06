import java.util.List;

/** Promises 19 to 23: surjective, injective, diamonds and inverse rules. */
public final class RowsTest {
    private RowsTest() {
    }

    public static void main(String[] args) {
        // text, surjective, injective, length of the shortest diamond (0 for none)
        row("cyclic 2;width 2;word a", true, true, 0);
        row("cyclic 2;width 2;word a*b", true, false, 0);
        row("cyclic 2;width 2;word 0", false, false, 2);
        row("cyclic 2;width 3;word 1", false, false, 3);
        row("cyclic 6;width 2;word a*a*a*b*b*b*b", true, true, 0);
        row("cyclic 6;width 3;word a*a*a*b*c*c*1", true, false, 0);
        row("cyclic 4;width 3;word a*a*b*c*c", true, true, 0);
        row("cyclic 4;width 2;word a*a*b*b", false, false, 2);
        row("sym;width 3;word a*b*c", true, false, 0);
        row("sym;width 2;word a*b*a-*b-", false, false, 2);
        elementary();
        inverses();
        inverseOf();
        wrongInputs();
        notLookedAt();
        Checks.end();
    }

    private static GroupAutomaton rule(String text) {
        return Checks.automaton(text + ";ring 0;");
    }

    private static void row(String text, boolean isSurjective, boolean isInjective, int diamond) {
        GroupAutomaton x = rule(text);
        Checks.due(text + " surjective", x.isSurjective(), isSurjective);
        Checks.due(text + " injective", x.isInjective(), isInjective);
        if (diamond == 0) {
            Checks.none(text + " diamond", x::diamond);
        } else {
            Checks.due(text + " diamond", x.diamond(), diamond);
        }
        if (!isInjective) {
            Checks.none(text + " inverse", () -> x.inverse(0));
            Checks.none(text + " inverseOf", () -> x.inverseOf(-1));
            Checks.none(text + " back", () -> x.back(1));
        }
    }

    /** The rules of width 3 on two states: known are the surjective ones, the injective ones, and those in LONGER. */
    private static void elementary() {
        List<Integer> surjective = List.of(15, 30, 45, 51, 60, 75, 85, 86, 89, 90, 101, 102, 105, 106, 120, 135, 149,
                150, 153, 154, 165, 166, 169, 170, 180, 195, 204, 210, 225, 240);
        List<Integer> injective = List.of(15, 51, 85, 170, 204, 240);
        // the shortest diamonds of these have length 4, those of the others 3
        List<Integer> longer = List.of(28, 29, 33, 37, 41, 54, 56, 57, 62, 70, 71, 73, 91, 97, 98, 99, 107, 108, 109,
                110, 118, 121, 123, 124, 131, 132, 134, 137, 145, 146, 147, 148, 156, 157, 158, 164, 182, 184, 185, 193,
                198, 199, 201, 214, 218, 222, 226, 227);
        for (int number = 0; number < 256; number++) {
            GroupAutomaton x = rule("cyclic 2;width 3;word a");
            for (int word = 0; word < 8; word++) {
                x.setCase(word >> 2, word >> 1 & 1, word & 1, number >> word & 1);
            }
            Checks.due("rule " + number + " surjective", x.isSurjective(), surjective.contains(number));
            Checks.due("rule " + number + " injective", x.isInjective(), injective.contains(number));
            if (surjective.contains(number)) {
                Checks.none("rule " + number + " diamond", x::diamond);
            } else {
                Checks.due("rule " + number + " diamond", x.diamond(), longer.contains(number) ? 4 : 3);
            }
        }
    }

    private static void inverses() {
        inverse(rule("cyclic 2;width 2;word a"), 1, 0, 2);
        inverse(rule("cyclic 2;width 2;word b"), 1, 1, 2);
        inverse(rule("sym;width 3;word 3*c*1"), 1, 2, 6);
        inverse(rule("cyclic 5;width 3;word b-"), 1, 1, 5);
        inverse(rule("cyclic 4;width 2;word a*b*b"), 2, 0, 16);
        inverse(rule("cyclic 4;width 3;word a*a*b*c*c"), 3, 2, 64);
        inverse(rule("cyclic 6;width 2;word a*a*a*b*b*b*b"), 2, 1, 36);
        inverse(table("cyclic 3", 3, "000000000211211111122122222"), 4, 0, 81);
        inverse(table("cyclic 3", 3, "000122211000011122200211122"), 5, 3, 243);
        inverse(table("sym", 2, "012345312045452103012345052143032145"), 5, 5, 7776);
        inverse(table("sym", 2, "030002515551222224443330304443151115"), 4, 0, 1296);
    }

    private static void inverse(GroupAutomaton x, int width, int shift, int words) {
        Checks.due("injective", x.isInjective(), true);
        Checks.due("width of the inverse rule", x.inverse(0), width);
        Checks.due("shift of the inverse rule", x.inverse(1), shift);
        Checks.due("words of the inverse rule", x.inverse(2), words);
    }

    private static GroupAutomaton table(String group, int width, String states) {
        return Checks.table(group, width, states, "0");
    }

    private static void inverseOf() {
        // y = 3a + 4b: the first part of a is told by y, the second part of it by the y before
        GroupAutomaton x = rule("cyclic 6;width 2;word a*a*a*b*b*b*b");
        for (int a = 0; a < 6; a++) {
            for (int b = 0; b < 6; b++) {
                for (int c = 0; c < 6; c++) {
                    int word = 10 * ((3 * a + 4 * b) % 6) + (3 * b + 4 * c) % 6;
                    Checks.due("inverseOf(" + word + ")", x.inverseOf(word), b);
                }
            }
        }
        GroupAutomaton y = rule("cyclic 3;width 2;word b*1");
        Checks.due("inverseOf(0)", y.inverseOf(0), 2);
        Checks.due("inverseOf(1)", y.inverseOf(1), 0);
        Checks.due("inverseOf(2)", y.inverseOf(2), 1);
    }

    private static void wrongInputs() {
        GroupAutomaton x = rule("cyclic 6;width 2;word a*a*a*b*b*b*b");
        for (int wrong : new int[] {-1, 3, Integer.MIN_VALUE, Integer.MAX_VALUE}) {
            Checks.argument("inverse(" + wrong + ")", () -> x.inverse(wrong));
        }
        for (int wrong : new int[] {-1, -10, 6, 16, 60, 61, 100, 111, 1000000000, Integer.MIN_VALUE, Integer.MAX_VALUE}) {
            Checks.argument("inverseOf(" + wrong + ")", () -> x.inverseOf(wrong));
        }
        GroupAutomaton none = rule("cyclic 6;width 2;word 0");
        Checks.argument("inverse(3) of none", () -> none.inverse(3));
        Checks.none("inverse(2) of none", () -> none.inverse(2));
        Checks.none("inverseOf(-1) of none", () -> none.inverseOf(-1));
        Checks.none("inverseOf(0) of none", () -> none.inverseOf(0));
    }

    private static void notLookedAt() {
        GroupAutomaton x = table("cyclic 3", 3, "002102211000211122000111222");
        Checks.due("injective, its inverse being too wide", x.isInjective(), true);
        Checks.due("surjective, its inverse being too wide", x.isSurjective(), true);
        Checks.none("too wide an inverse", () -> x.inverse(0));
        Checks.none("too wide an inverse", () -> x.inverseOf(0));
        Checks.none("too wide an inverse", () -> x.back(1));
    }
}
