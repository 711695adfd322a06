/** Promises 36 to 43: what changes the ring, the slots, and undo. */
public final class ChangesTest {
    private static final String LONG_RING = "ring 0 1 2 3 0 1 2 3 0 1 2 3 0 1 2 3;";

    private ChangesTest() {
    }

    public static void main(String[] args) {
        step();
        back();
        backByShifts();
        set();
        grow();
        rotate();
        keep();
        multiply();
        undo();
        undoOfEveryChange();
        failedCallsAreNoChanges();
        Checks.end();
    }

    private static void step() {
        GroupAutomaton x = Checks.automaton("cyclic 3;width 2;word b;ring 0 1 2 2;");
        Checks.due("step", x.step(1), 3);
        Checks.same("ring", Checks.ringOf(x), "1220");
        Checks.due("around the ring", x.step(100), 0);
        Checks.same("ring", Checks.ringOf(x), "1220");
        Checks.due("step", x.step(2), 4);
        Checks.same("ring", Checks.ringOf(x), "2012");
        for (int wrong : new int[] {-1, 0, 101, Integer.MIN_VALUE, Integer.MAX_VALUE}) {
            Checks.argument("step(" + wrong + ")", () -> x.step(wrong));
        }
        Checks.due("three changes", x.undo(), 2);
        Checks.same("ring", Checks.ringOf(x), "1220");
        GroupAutomaton y = Checks.automaton("sym;width 3;word a*b*c;ring 1 2 3;");
        int product = y.product(y.product(3, 1), 2);
        Checks.due("step of three", y.step(1) > 0, true);
        Checks.due("the cell before, this one and the next", y.cell(0), product);
    }

    private static void back() {
        GroupAutomaton x = Checks.automaton("cyclic 6;width 2;word a*a*a*b*b*b*b;ring 0 1 2 3 4 5 5;");
        String before = Checks.ringOf(x);
        int moved = x.step(5);
        Checks.due("back", x.back(5), moved);
        Checks.same("ring", Checks.ringOf(x), before);
        x.back(100);
        x.step(100);
        Checks.same("ring", Checks.ringOf(x), before);
        for (int wrong : new int[] {-1, 0, 101, Integer.MIN_VALUE, Integer.MAX_VALUE}) {
            Checks.argument("back(" + wrong + ")", () -> x.back(wrong));
        }
        Checks.due("back is a change", x.undo(), 3);
        GroupAutomaton none = Checks.automaton("cyclic 6;width 2;word a*b;ring 0 1;");
        Checks.none("back without an inverse rule", () -> none.back(1));
        Checks.argument("back without an inverse rule", () -> none.back(0));
        Checks.state("back without an inverse rule", none::undo);
    }

    private static void backByShifts() {
        String[] words = {"width 2;word a", "width 2;word b", "width 3;word a", "width 3;word b", "width 3;word c"};
        String[] due = {"0122", "2012", "1220", "0122", "2012"};
        for (int k = 0; k < words.length; k++) {
            GroupAutomaton x = Checks.automaton("cyclic 3;" + words[k] + ";ring 0 1 2 2;");
            x.back(1);
            Checks.same(words[k] + " back", Checks.ringOf(x), due[k]);
            GroupAutomaton one = Checks.automaton("cyclic 3;" + words[k] + "*1;ring 0;");
            Checks.due(words[k] + " back in one cell", one.back(1), 1);
            Checks.same(words[k] + " back in one cell", Checks.ringOf(one), "2");
        }
    }

    private static void set() {
        GroupAutomaton x = Checks.automaton("cyclic 3;width 2;word b;ring 0 1 2;");
        Checks.due("set", x.set(1, 2), 1);
        Checks.due("set", x.set(1, 2), 2);
        Checks.same("ring", Checks.ringOf(x), "022");
        for (int wrong : new int[] {-1, 3, 16, Integer.MIN_VALUE, Integer.MAX_VALUE}) {
            Checks.index("set", () -> x.set(wrong, 0));
            Checks.index("set", () -> x.set(0, wrong));
        }
        Checks.due("setting the same state is a change", x.undo(), 1);
    }

    private static void grow() {
        GroupAutomaton x = Checks.automaton("cyclic 4;width 2;word b;ring 0 1 2 3 0 1 2 3 0 1 2 3 0 1;");
        Checks.due("grow", x.grow(3), 15);
        Checks.due("grow", x.grow(2), 16);
        Checks.state("grow", () -> x.grow(2));
        Checks.index("grow", () -> x.grow(4));
        Checks.index("grow", () -> x.grow(-1));
        Checks.same("ring", Checks.ringOf(x), "0123012301230132");
        Checks.due("undo", x.undo(), 1);
        Checks.due("size", x.size(), 15);
        Checks.index("the last cell is gone", () -> x.cell(15));
        Checks.index("no such state", () -> x.grow(Integer.MAX_VALUE));
    }

    private static void rotate() {
        GroupAutomaton x = Checks.automaton("cyclic 5;width 2;word b;ring 0 1 2 3 4;");
        Checks.due("rotate(1)", x.rotate(1), 1);
        Checks.same("ring", Checks.ringOf(x), "12340");
        Checks.due("rotate(-2)", x.rotate(-2), 4);
        Checks.same("ring", Checks.ringOf(x), "40123");
        Checks.due("rotate(0)", x.rotate(0), 4);
        Checks.due("rotate(5)", x.rotate(5), 4);
        Checks.due("rotate(the greatest)", x.rotate(Integer.MAX_VALUE), 1);
        Checks.same("ring", Checks.ringOf(x), "12340");
        Checks.due("rotate(the least)", x.rotate(Integer.MIN_VALUE), 3);
        Checks.same("ring", Checks.ringOf(x), "34012");
        Checks.due("each is a change", x.undo(), 5);
        GroupAutomaton one = new GroupAutomaton();
        Checks.due("rotate one cell", one.rotate(Integer.MIN_VALUE), 0);
    }

    private static void keep() {
        GroupAutomaton x = Checks.automaton("cyclic 5;width 2;word b;ring 1 2;");
        Checks.due("keep(0)", x.keep(0), 2);
        Checks.state("keep is no change", x::undo);
        x.grow(3);
        Checks.due("keep(1)", x.keep(1), 3);
        Checks.state("slot 0 is as it was", () -> x.multiply(0));
        Checks.due("slot 1", x.multiply(1), 2);
        Checks.same("ring", Checks.ringOf(x), "241");
        Checks.due("keep in place of another", x.keep(0), 3);
        x.multiply(0);
        Checks.same("ring", Checks.ringOf(x), "432");
        for (int wrong : new int[] {-1, 2, Integer.MIN_VALUE, Integer.MAX_VALUE}) {
            Checks.index("keep(" + wrong + ")", () -> x.keep(wrong));
            Checks.index("multiply(" + wrong + ")", () -> x.multiply(wrong));
        }
    }

    private static void multiply() {
        GroupAutomaton x = Checks.automaton("sym;width 2;word b;ring 2 1 0;");
        Checks.none("an empty slot", () -> x.multiply(1));
        x.keep(1);
        x.set(0, 1);
        x.set(1, 2);
        x.set(2, 5);
        Checks.due("multiply from the right", x.multiply(1), x.product(x.product(4, 3), 5));
        Checks.same("ring", Checks.ringOf(x), "435");
        x.grow(0);
        Checks.state("another size", () -> x.multiply(1));
        Checks.none("another slot", () -> x.multiply(0));
        Checks.due("a change", x.undo(), 4);
        Checks.due("a change", x.undo(), 3);
        Checks.same("ring", Checks.ringOf(x), "125");
        Checks.due("the slot stays", x.multiply(1), x.product(x.product(4, 3), 5));
    }

    private static void undo() {
        GroupAutomaton x = Checks.automaton("cyclic 6;width 2;word b;ring 0;");
        for (int k = 1; k <= 13; k++) {
            x.set(0, k % 6);
        }
        for (int k = 12; k >= 3; k--) {
            Checks.due("changes left", x.undo(), k - 3);
            Checks.due("state before", x.cell(0), k % 6);
        }
        Checks.state("at most 10 changes", x::undo);
        Checks.due("the oldest one kept", x.cell(0), 3);
        x.set(0, 5);
        Checks.due("after all are undone", x.undo(), 0);
        Checks.due("after all are undone", x.cell(0), 3);
    }

    private static void undoOfEveryChange() {
        GroupAutomaton x = Checks.automaton("klein;width 2;word b;" + LONG_RING);
        String ring = Checks.ringOf(x);
        x.keep(0);
        x.step(3);
        x.back(1);
        x.set(3, 3);
        x.rotate(5);
        x.multiply(0);
        x.setCase(1, 1, 0, 3);
        x.setCase(1, 1, 0, 2);
        x.step(1);
        Checks.due("undo step", x.undo(), 7);
        Checks.due("the case stays", x.rule(1, 1, 0), 2);
        Checks.due("undo the second case", x.undo(), 6);
        Checks.due("the first case", x.rule(1, 1, 0), 3);
        Checks.due("undo the first case", x.undo(), 5);
        Checks.due("no case", x.rule(1, 1, 0), 1);
        Checks.due("undo multiply", x.undo(), 4);
        Checks.due("undo rotate", x.undo(), 3);
        Checks.due("undo set", x.undo(), 2);
        Checks.due("undo back", x.undo(), 1);
        Checks.due("undo step", x.undo(), 0);
        Checks.same("ring", Checks.ringOf(x), ring);
        Checks.due("the slot stays", x.multiply(0), 0);
        Checks.due("undo is no change", x.undo(), 0);
    }

    private static void failedCallsAreNoChanges() {
        GroupAutomaton x = Checks.automaton("klein;width 2;word a*b;" + LONG_RING);
        String ring = Checks.ringOf(x);
        Checks.answer(() -> x.step(0));
        Checks.answer(() -> x.back(1));
        Checks.answer(() -> x.set(16, 0));
        Checks.answer(() -> x.grow(0));
        Checks.answer(() -> x.multiply(0));
        Checks.answer(() -> x.setCase(0, 4, 0, 0));
        Checks.state("nothing to undo", x::undo);
        Checks.same("ring", Checks.ringOf(x), ring);
    }
}
