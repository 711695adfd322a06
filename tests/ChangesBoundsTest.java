/**
 * The bounds in promises 36 to 43: of each sentence that names one, the last value that is right and the first one
 * beyond it.
 */
public final class ChangesBoundsTest {
    private ChangesBoundsTest() {
    }

    public static void main(String[] args) {
        stepsFrom1To100();
        stepCountsCells();
        backFrom1To100();
        backIsRefusedInOrder();
        backCountsCells();
        backUndoesStep();
        cellsAndStatesOfSet();
        setReturnsThePreviousState();
        growTo16();
        growIsRefusedInOrder();
        rotateByAnyNumber();
        slotsOfKeep();
        keepInPlaceOfWhatWasThere();
        slotsOfMultiply();
        multiplyIsRefusedInOrder();
        multiplyByOtherSizes();
        multiplyCellByCell();
        atMost10AreKept();
        latestThatHasNotBeenUndone();
        changesAroundTheTen();
        whatIsAChange();
        changesThatChangeNothing();
        undoOfTheRule();
        slotsStay();
        as512Calls();
        Checks.end();
    }

    private static GroupAutomaton automaton(String text) {
        return Checks.automaton(text);
    }

    private static int[] beside(int least, int greatest) {
        return new int[] {least - 1, greatest + 1, greatest + 2, Integer.MIN_VALUE, Integer.MAX_VALUE};
    }

    private static void ring(String what, GroupAutomaton x, String due) {
        Checks.same(what, Checks.ringOf(x), due);
    }

    // ---- step and back

    /** Promise 36: "1 to 100". */
    private static void stepsFrom1To100() {
        for (int steps = -2; steps <= 102; steps++) {
            GroupAutomaton x = automaton("cyclic 5;width 2;word b;ring 1 2 3 4 0 0 0;");
            int made = steps;
            if (steps >= 1 && steps <= 100) {
                x.step(steps);
                Checks.due("step(" + steps + ")", x.cell(0), steps % 7 < 4 ? steps % 7 + 1 : 0);
                Checks.due("one change", x.undo(), 0);
            } else {
                Checks.argument("step(" + steps + ")", () -> x.step(made));
                Checks.state("no change", x::undo);
            }
            ring("as before", x, "1234000");
        }
        GroupAutomaton x = new GroupAutomaton();
        Checks.argument("step by the least", () -> x.step(Integer.MIN_VALUE));
        Checks.argument("step by the greatest", () -> x.step(Integer.MAX_VALUE));
    }

    /** "The number of cells whose state is another one than before": before the call, not before its last step. */
    private static void stepCountsCells() {
        GroupAutomaton x = automaton("cyclic 2;width 2;word b;ring 1 0 1 0;");
        Checks.due("1 step", x.step(1), 4);
        Checks.due("2 steps", x.step(2), 0);
        Checks.due("99 steps", x.step(99), 4);
        Checks.due("100 steps", x.step(100), 0);
        GroupAutomaton one = automaton("cyclic 3;width 2;word a;case 0 1=2;ring 0 1 1 0 0;");
        Checks.due("1 cell", one.step(1), 1);
        Checks.due("no cell", one.step(1), 0);
        GroupAutomaton all = automaton("cyclic 6;width 3;word b*1;ring 0 1 2 3 4 5 0 1 2 3 4 5 0 1 2 3;");
        Checks.due("16 cells", all.step(1), 16);
        Checks.due("16 cells", all.step(5), 16);
        Checks.due("no cells", all.step(6), 0);
    }

    /** Promise 37: "1 to 100". */
    private static void backFrom1To100() {
        for (int steps = -2; steps <= 102; steps++) {
            GroupAutomaton x = automaton("cyclic 5;width 2;word b;ring 1 2 3 4 0 0 0;");
            int made = steps;
            if (steps >= 1 && steps <= 100) {
                x.back(steps);
                Checks.due("back(" + steps + ")", x.cell(steps % 7), 1);
                Checks.due("one change", x.undo(), 0);
            } else {
                Checks.argument("back(" + steps + ")", () -> x.back(made));
                Checks.state("no change", x::undo);
            }
            ring("as before", x, "1234000");
        }
    }

    /** Promise 37: IllegalArgumentException is named before NoSuchElementException. */
    private static void backIsRefusedInOrder() {
        GroupAutomaton x = automaton("cyclic 5;width 2;word a*b;ring 1 2;");
        for (int wrong : beside(1, 100)) {
            Checks.argument("back by " + wrong, () -> x.back(wrong));
        }
        Checks.none("back by 1", () -> x.back(1));
        Checks.none("back by 100", () -> x.back(100));
        Checks.state("no change", x::undo);
        ring("as before", x, "12");
    }

    private static void backCountsCells() {
        GroupAutomaton x = automaton("cyclic 2;width 3;word a;ring 1 0 1 0;");
        Checks.due("1 step back", x.back(1), 4);
        Checks.due("2 steps back", x.back(2), 0);
        Checks.due("99 steps back", x.back(99), 4);
        Checks.due("100 steps back", x.back(100), 0);
        GroupAutomaton one = automaton("cyclic 3;width 2;word a;case 1 0=2;case 2 0=1;ring 0 1 1 0 0;");
        Checks.due("1 cell", one.back(1), 1);
        ring("1 cell", one, "01200");
    }

    /** "The cell that has the index s in a word of v + w - 1 cells": by inverse rules of all widths, on rings of all sizes. */
    private static void backUndoesStep() {
        String[][] rules = {{"cyclic 3", "2", "000211122"}, {"klein", "2", "0022113310330122"},
            {"klein", "2", "0123210331200123"}, {"cyclic 5", "2", "0123431240032410123431204"},
            {"cyclic 5", "2", "0200011111442223343320344"}, {"cyclic 3", "3", "021120021021120021021120021"},
            {"cyclic 3", "3", "000111222122112000020111202"}, {"cyclic 3", "3", "001001001110110110222222222"},
            {"cyclic 3", "3", "012012021021021021021021021"}};
        for (String[] rule : rules) {
            for (int size = 1; size <= 16; size++) {
                StringBuilder cells = new StringBuilder();
                for (int k = 0; k < size; k++) {
                    cells.append(k * k / 2 % 3).append(' ');
                }
                GroupAutomaton x = Checks.table(rule[0], Integer.parseInt(rule[1]), rule[2], cells.toString());
                String before = Checks.ringOf(x);
                int moved = x.step(1);
                Checks.due("back as many cells", x.back(1), moved);
                ring("back after step", x, before);
                x.back(7);
                x.step(6);
                x.step(1);
                ring("step after back", x, before);
                x.back(1);
                x.step(1);
                ring("step after back", x, before);
            }
        }
    }

    // ---- set, grow, rotate

    /** Promise 38: "if there is no such cell or state". */
    private static void cellsAndStatesOfSet() {
        for (int size = 1; size <= 16; size += 5) {
            for (int g = 2; g <= 6; g++) {
                GroupAutomaton x = automaton("cyclic " + g + ";width 2;word a;ring" + " 1".repeat(size) + ";");
                int last = size - 1;
                int greatest = g - 1;
                for (int wrong : beside(0, last)) {
                    Checks.index("set of cell " + wrong, () -> x.set(wrong, 0));
                    Checks.index("set of cell " + wrong, () -> x.set(wrong, greatest));
                    Checks.index("set of cell and state " + wrong, () -> x.set(wrong, wrong));
                }
                for (int wrong : beside(0, greatest)) {
                    Checks.index("set to " + wrong, () -> x.set(0, wrong));
                    Checks.index("set to " + wrong, () -> x.set(last, wrong));
                }
                ring("as before", x, "1".repeat(size));
                Checks.state("no change", x::undo);
                Checks.due("set the last cell", x.set(last, greatest), 1);
                Checks.due("the last cell", x.cell(last), greatest);
                Checks.due("set the first cell", x.set(0, 0), size == 1 ? greatest : 1);
                Checks.due("the first cell", x.cell(0), 0);
            }
        }
    }

    private static void setReturnsThePreviousState() {
        GroupAutomaton x = automaton("sym;width 2;word a;ring 0 1 2 3 4 5;");
        for (int cell = 0; cell < 6; cell++) {
            Checks.due("previous state", x.set(cell, 5 - cell), cell);
            Checks.due("the same state again", x.set(cell, 5 - cell), 5 - cell);
        }
        ring("all cells", x, "543210");
    }

    /** Promise 39: "if the ring has 16 cells"; "behind the last one". */
    private static void growTo16() {
        GroupAutomaton x = automaton("cyclic 6;width 2;word a;ring 5;");
        StringBuilder due = new StringBuilder("5");
        for (int size = 2; size <= 16; size++) {
            Checks.due("grow", x.grow(size % 6), size);
            due.append(size % 6);
            ring("grow", x, due.toString());
        }
        for (int state = 0; state < 6; state++) {
            int tried = state;
            Checks.state("grow of 16 cells", () -> x.grow(tried));
        }
        ring("16 cells", x, due.toString());
        Checks.due("undo", x.undo(), 9);
        Checks.due("grow to 16 again", x.grow(0), 16);
        Checks.state("grow of 16 again", () -> x.grow(0));
        ring("16 cells again", x, due.substring(0, 15) + "0");
    }

    /** Promise 39: IndexOutOfBoundsException is named before IllegalStateException. */
    private static void growIsRefusedInOrder() {
        GroupAutomaton full = automaton("cyclic 4;width 2;word a;ring" + " 3".repeat(16) + ";");
        GroupAutomaton small = automaton("cyclic 4;width 2;word a;ring" + " 3".repeat(15) + ";");
        for (int wrong : beside(0, 3)) {
            Checks.index("grow by " + wrong, () -> full.grow(wrong));
            Checks.index("grow by " + wrong, () -> small.grow(wrong));
        }
        Checks.state("grow of 16", () -> full.grow(3));
        Checks.due("grow of 15", small.grow(3), 16);
        Checks.state("no change", full::undo);
        Checks.due("size", full.size(), 16);
    }

    /** Promise 40: "any number". */
    private static void rotateByAnyNumber() {
        for (int size = 1; size <= 16; size++) {
            StringBuilder cells = new StringBuilder();
            for (int k = 0; k < size; k++) {
                cells.append(' ').append(k * k % 6);
            }
            for (int by : new int[] {0, 1, -1, size - 1, size, size + 1, -size, -size - 1, 1 - size, 7 * size + 3,
                Integer.MAX_VALUE, Integer.MAX_VALUE - 1, Integer.MIN_VALUE, Integer.MIN_VALUE + 1, 1 << 30}) {
                GroupAutomaton x = automaton("cyclic 6;width 2;word a;ring" + cells + ";");
                int first = x.rotate(by);
                StringBuilder due = new StringBuilder();
                for (int k = 0; k < size; k++) {
                    long from = ((k + (long) by) % size + size) % size;
                    due.append(from * from % 6);
                }
                Checks.due("cell 0 after rotate(" + by + ") of " + size, first, due.charAt(0) - '0');
                ring("rotate(" + by + ") of " + size, x, due.toString());
                Checks.due("one change", x.undo(), 0);
                ring("undo of rotate(" + by + ")", x, cells.toString().replace(" ", ""));
            }
        }
    }

    // ---- slots

    /** Promise 41: "0 or 1". */
    private static void slotsOfKeep() {
        for (int size = 1; size <= 16; size++) {
            GroupAutomaton x = automaton("cyclic 3;width 2;word a;ring" + " 1".repeat(size) + ";");
            for (int wrong : beside(0, 1)) {
                Checks.index("keep in " + wrong, () -> x.keep(wrong));
            }
            Checks.none("slot 0 is empty", () -> x.multiply(0));
            Checks.none("slot 1 is empty", () -> x.multiply(1));
            Checks.due("keep in 1", x.keep(1), size);
            Checks.none("slot 0 is empty still", () -> x.multiply(0));
            Checks.due("keep in 0", x.keep(0), size);
            Checks.state("keep is no change", x::undo);
            Checks.due("slot 0", x.multiply(0), 2 * size % 3);
            Checks.due("slot 1", x.multiply(1), 0);
            ring("1 + 1 + 1", x, "0".repeat(size));
        }
    }

    private static void keepInPlaceOfWhatWasThere() {
        GroupAutomaton x = automaton("cyclic 5;width 2;word a;ring 1 2 3;");
        x.keep(0);
        x.keep(1);
        x.grow(4);
        x.set(0, 0);
        x.keep(0);
        Checks.state("slot 1 has 3 cells", () -> x.multiply(1));
        Checks.due("slot 0 has 4 cells", x.multiply(0), 3);
        ring("twice", x, "0413");
        x.undo();
        x.undo();
        x.undo();
        ring("the ring at first", x, "123");
        Checks.state("slot 0 has 4 cells still", () -> x.multiply(0));
        x.keep(0);
        x.multiply(0);
        ring("slot 0 has 3 cells", x, "241");
        x.undo();
        x.multiply(1);
        ring("slot 1 has 3 cells", x, "241");
    }

    /** Promise 42: "0 or 1". */
    private static void slotsOfMultiply() {
        GroupAutomaton x = automaton("cyclic 5;width 2;word a;ring 1 2 3;");
        x.keep(0);
        x.rotate(1);
        x.keep(1);
        for (int wrong : beside(0, 1)) {
            Checks.index("multiply by " + wrong, () -> x.multiply(wrong));
        }
        x.multiply(0);
        ring("multiply by 0", x, "304");
        x.undo();
        x.multiply(1);
        ring("multiply by 1", x, "412");
    }

    /** Promise 42: IndexOutOfBoundsException, then NoSuchElementException, then IllegalStateException. */
    private static void multiplyIsRefusedInOrder() {
        GroupAutomaton x = automaton("cyclic 5;width 2;word a;ring 1 2 3;");
        for (int wrong : beside(0, 1)) {
            Checks.index("multiply by " + wrong, () -> x.multiply(wrong));
        }
        Checks.none("multiply by the empty slot 0", () -> x.multiply(0));
        Checks.none("multiply by the empty slot 1", () -> x.multiply(1));
        x.keep(1);
        x.grow(0);
        for (int wrong : beside(0, 1)) {
            Checks.index("multiply by " + wrong, () -> x.multiply(wrong));
        }
        Checks.none("multiply by the empty slot", () -> x.multiply(0));
        Checks.state("multiply by the shorter ring", () -> x.multiply(1));
        Checks.write(x, "cyclic 5;width 2;word a;ring 1 2 3;");
        x.load();
        Checks.none("load empties slot 1", () -> x.multiply(1));
    }

    /** Promise 42: "if the ring in the slot has another number of cells": one less, one more. */
    private static void multiplyByOtherSizes() {
        for (int size = 1; size <= 16; size++) {
            for (int kept = 1; kept <= 16; kept++) {
                GroupAutomaton x = automaton("cyclic 5;width 2;word a;ring" + " 2".repeat(Math.min(size, kept)) + ";");
                for (int k = size; k < kept; k++) {
                    x.grow(2);
                }
                x.keep(0);
                for (int k = size; k < kept && k < size + 10; k++) {
                    x.undo();
                }
                for (int k = kept; k < size; k++) {
                    x.grow(2);
                }
                if (x.size() == kept) {
                    Checks.due("multiply", x.multiply(0), 4 * kept % 5);
                } else {
                    Checks.state(kept + " cells in the slot, " + size + " in the ring", () -> x.multiply(0));
                }
            }
        }
    }

    /** Promise 42: "the state x of a cell becomes x * y", where the order counts; the product of all of them. */
    private static void multiplyCellByCell() {
        GroupAutomaton x = automaton("sym;width 2;word a;ring 2 2 1 0 3 4;");
        x.keep(1);
        String other = "123455";
        for (int k = 0; k < 6; k++) {
            x.set(k, other.charAt(k) - '0');
        }
        // 1*2, 2*2, 3*1, 4*0, 5*3, 5*4
        Checks.due("the product of all", x.multiply(1), 1);
        ring("cell by cell", x, "402421");
        Checks.due("the total", x.total(), 1);
        GroupAutomaton full = automaton("sym;width 2;word a;ring" + " 3".repeat(16) + ";");
        full.keep(0);
        Checks.due("16 cells", full.multiply(0), 4);
        ring("16 cells", full, "4".repeat(16));
        Checks.due("16 cells", full.multiply(0), 0);
    }

    // ---- undo

    /** Promise 43: "At most 10 changes are kept"; "the number of changes that can still be undone"; "if there is none". */
    private static void atMost10AreKept() {
        for (int made = 0; made <= 25; made++) {
            GroupAutomaton x = automaton("cyclic 6;width 2;word a;ring 0 0;");
            for (int k = 1; k <= made; k++) {
                x.set(k % 2, k % 6);
            }
            int kept = Math.min(made, 10);
            for (int left = kept - 1; left >= 0; left--) {
                Checks.due("undo of " + made, x.undo(), left);
                int last = made - kept + left;
                Checks.due("the latest state", x.cell(last % 2), last % 6);
                Checks.due("the state before it", x.cell((last + 1) % 2), Math.max(last - 1, 0) % 6);
            }
            Checks.state("undo of " + made + " again", x::undo);
            Checks.state("and again", x::undo);
            x.set(0, 1);
            Checks.due("a change behind", x.undo(), 0);
        }
    }

    /** "The latest change that has not been undone." */
    private static void latestThatHasNotBeenUndone() {
        GroupAutomaton x = automaton("cyclic 6;width 2;word a;ring 0;");
        x.set(0, 1);
        x.set(0, 2);
        Checks.due("undo", x.undo(), 1);
        Checks.due("cell", x.cell(0), 1);
        x.set(0, 3);
        Checks.due("undo", x.undo(), 1);
        Checks.due("cell", x.cell(0), 1);
        Checks.due("undo", x.undo(), 0);
        Checks.due("cell", x.cell(0), 0);
        Checks.state("undo", x::undo);
        x.set(0, 4);
        x.set(0, 5);
        Checks.due("undo", x.undo(), 1);
        Checks.due("cell", x.cell(0), 4);
        Checks.due("undo", x.undo(), 0);
        Checks.due("cell", x.cell(0), 0);
    }

    /** More than 10 changes, some undone, more made: the places of the ten are used again. */
    private static void changesAroundTheTen() {
        for (int first = 5; first <= 14; first++) {
            for (int undone = 0; undone <= Math.min(first, 10); undone++) {
                for (int second = 0; second <= 12; second++) {
                    GroupAutomaton x = automaton("cyclic 6;width 2;word a;ring 0 0;");
                    String[] past = new String[40];
                    int now = 0;
                    int left = 0;
                    past[0] = "00";
                    for (int k = 0; k < first + second; k++) {
                        if (k == first) {
                            for (int j = 0; j < undone; j++) {
                                x.undo();
                                now--;
                                left--;
                            }
                        }
                        x.set(k % 2, (k + 1) % 6);
                        now++;
                        left = Math.min(left + 1, 10);
                        past[now] = Checks.ringOf(x);
                    }
                    while (left > 0) {
                        left--;
                        now--;
                        Checks.due("undo around the ten", x.undo(), left);
                        ring("undo around the ten", x, past[now]);
                    }
                    Checks.state("undo around the ten", x::undo);
                }
            }
        }
    }

    /** "This is a change": step, back, set, grow, rotate, multiply and setCase; "This is no change": keep. */
    private static void whatIsAChange() {
        Twins.Use[] changes = {x -> x.step(1), x -> x.back(1), x -> x.set(0, 2), x -> x.grow(1), x -> x.rotate(1),
            x -> x.multiply(0), x -> x.setCase(1, 1, 1, 0)};
        for (int k = 0; k < changes.length; k++) {
            GroupAutomaton x = automaton("cyclic 3;width 2;word b;ring 0 1 2 2;");
            x.keep(0);
            Checks.state("nothing yet", x::undo);
            changes[k].on(x);
            Checks.due("change " + k, x.undo(), 0);
            ring("change " + k + " undone", x, "0122");
            Checks.due("change " + k + " undone", x.rule(1, 1, 1), 1);
            Checks.state("change " + k + " undone", x::undo);
        }
        GroupAutomaton x = automaton("cyclic 3;width 2;word b;ring 0 1 2 2;");
        for (Twins.Use change : changes) {
            x.keep(0);
            change.on(x);
        }
        Checks.due("seven changes", x.undo(), 6);
    }

    /** A change that leaves all as it was is one nevertheless. */
    private static void changesThatChangeNothing() {
        GroupAutomaton x = automaton("cyclic 3;width 2;word a;ring 1 1;");
        Checks.due("step", x.step(1), 0);
        Checks.due("back", x.back(1), 0);
        Checks.due("set", x.set(0, 1), 1);
        Checks.due("rotate", x.rotate(0), 1);
        Checks.due("setCase", x.setCase(1, 1, 0, 1), 1);
        for (int left = 4; left >= 0; left--) {
            Checks.due("undo", x.undo(), left);
        }
        Checks.state("undo", x::undo);
    }

    /** The rule comes back with the ring, in the order of the changes. */
    private static void undoOfTheRule() {
        GroupAutomaton x = automaton("cyclic 3;width 3;word b;ring 0 1 2;");
        for (int k = 0; k < 12; k++) {
            if (k % 2 == 0) {
                x.setCase(2, 2, 2, (k / 2 + 1) % 3);
            } else {
                x.rotate(1);
            }
        }
        Checks.due("the last state", x.rule(2, 2, 2), 0);
        String[] rings = {"201", "201", "120", "120", "012", "012", "201", "201", "120", "120"};
        int[] states = {0, 2, 2, 1, 1, 0, 0, 2, 2, 1};
        for (int k = 0; k < 10; k++) {
            Checks.due("undo", x.undo(), 9 - k);
            ring("undo " + k, x, rings[k]);
            Checks.due("undo " + k, x.rule(2, 2, 2), states[k]);
        }
        Checks.state("undo", x::undo);
        Checks.due("injective again, but for the case", x.isInjective(), false);
        x.setCase(2, 2, 2, 2);
        Checks.due("injective", x.isInjective(), true);
        x.undo();
        Checks.due("injective, undone", x.isInjective(), false);
    }

    /** "The slots stay." */
    private static void slotsStay() {
        GroupAutomaton x = automaton("cyclic 6;width 2;word a;ring 1 2;");
        x.set(0, 3);
        x.keep(0);
        x.set(1, 5);
        x.keep(1);
        x.undo();
        x.undo();
        ring("undone", x, "12");
        x.multiply(0);
        ring("slot 0", x, "44");
        x.undo();
        x.multiply(1);
        ring("slot 1", x, "41");
    }

    /** "An object is used for at most 512 calls": the last of them answers as the first. */
    private static void as512Calls() {
        GroupAutomaton x = new GroupAutomaton();
        for (int k = 0; k < 510; k++) {
            Checks.due("set", x.set(0, (k + 1) % 2), k % 2);
        }
        Checks.due("undo", x.undo(), 9);
        Checks.due("cell", x.cell(0), 1);
        GroupAutomaton y = new GroupAutomaton();
        for (int k = 0; k < 128; k++) {
            Checks.due("setCase", y.setCase(0, 0, 0, 1), 0);
            Checks.due("isInjective", y.isInjective(), false);
            Checks.due("undo", y.undo(), 0);
            Checks.due("isInjective", y.isInjective(), true);
        }
    }
}
