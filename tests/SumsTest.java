/** Promises 24 to 26: the conserved sums. */
public final class SumsTest {
    private SumsTest() {
    }

    public static void main(String[] args) {
        onlyTheCells();
        shiftsKeepAll();
        traffic();
        reducedForm();
        fractions();
        values();
        inAnyOrder();
        wrongInputs();
        Checks.end();
    }

    /** A row of the basis: its fractions, those with the denominator 1 as numbers. */
    private static String rowOf(GroupAutomaton x, int row) {
        StringBuilder text = new StringBuilder();
        for (int state = 0; state < x.order(); state++) {
            long bottom = x.sum(row, state, 1);
            text.append(state == 0 ? "" : " ").append(x.sum(row, state, 0)).append(bottom == 1 ? "" : "/" + bottom);
        }
        return text.toString();
    }

    private static void basis(String text, String... rows) {
        GroupAutomaton x = Checks.automaton(text + ";ring 0;");
        Checks.due(text + " sums", x.sums(), rows.length);
        for (int row = 0; row < Math.min(rows.length, x.sums()); row++) {
            Checks.same(text + " row " + row, rowOf(x, row), rows[row]);
        }
    }

    private static void onlyTheCells() {
        basis("cyclic 2;width 2;word 0", "1 1");
        basis("sym;width 3;word a*b*c", "1 1 1 1 1 1");
        basis("cyclic 6;width 2;word a*b", "1 1 1 1 1 1");
        basis("cyclic 3;width 2;word b*1", "1 1 1");
    }

    private static void shiftsKeepAll() {
        basis("cyclic 3;width 3;word a", "1 0 0", "0 1 0", "0 0 1");
        basis("cyclic 3;width 3;word b", "1 0 0", "0 1 0", "0 0 1");
        basis("klein;width 3;word c", "1 0 0 0", "0 1 0 0", "0 0 1 0", "0 0 0 1");
        basis("klein;width 2;word b", "1 0 0 0", "0 1 0 0", "0 0 1 0", "0 0 0 1");
    }

    /** Rule 184: the cars before a gap go on, and none is lost. */
    private static void traffic() {
        basis("cyclic 2;width 3;word b;case 0 1 0=0;case 1 0 0=1;case 1 0 1=1;case 1 1 0=0", "1 0", "0 1");
    }

    private static void reducedForm() {
        // the rows must be reduced from the left: 1 and 2 change into one another, so do 3 and 5
        basis("cyclic 6;width 2;word a;case 1 1=2;case 1 0=2;case 1 2=2;case 1 3=2;case 1 4=2;case 1 5=2;case 2 0=1;"
                + "case 2 1=1;case 2 2=1;case 2 3=1;case 2 4=1;case 2 5=1", "1 0 0 0 0 0", "0 1 1 0 0 0",
                "0 0 0 1 0 0", "0 0 0 0 1 0", "0 0 0 0 0 1");
        basis("cyclic 3;width 2;word a-", "1 0 0", "0 1 1");
        basis("cyclic 6;width 2;word a-", "1 0 0 0 0 0", "0 1 0 0 0 1", "0 0 1 0 1 0", "0 0 0 1 0 0");
        basis("sym;width 2;word 1*a*1", "1 0 0 0 0 0", "0 1 0 0 0 0", "0 0 1 0 0 1", "0 0 0 1 1 0");
    }

    /** Traffic of states 0, 1, 2 in which two halves of a load go apart: q(1) is the half of q(0) + q(2). */
    private static void fractions() {
        // a 2 in front of a 0 gives one of its two parts to it
        String text = "cyclic 3;width 3;word b;case 2 0 0=1;case 2 0 1=1;case 2 0 2=1;case 0 2 0=1;case 1 2 0=1;case 2 2 0=1";
        basis(text, "1 0 -1", "0 1 2");
        // the same with the names of the states turned: now 0 is the one in the middle
        String turned = "cyclic 3;width 3;word b;case 1 2 2=0;case 1 2 0=0;case 1 2 1=0;case 2 1 2=0;case 0 1 2=0;case 1 1 2=0";
        basis(turned, "1 0 2", "0 1 -1");
        String last = "cyclic 3;width 3;word b;case 1 0 0=2;case 1 0 2=2;case 1 0 1=2;case 0 1 0=2;case 2 1 0=2;case 1 1 0=2";
        basis(last, "1 0 1/2", "0 1 1/2");
        GroupAutomaton x = Checks.automaton(last + ";ring 2 1 2 2;");
        Checks.due("numerator of 3/2", x.value(0, 0), 3);
        Checks.due("denominator of 3/2", x.value(0, 1), 2);
        Checks.due("numerator of 5/2", x.value(1, 0), 5);
        Checks.due("denominator of 5/2", x.value(1, 1), 2);
        x.set(0, 0);
        Checks.due("numerator of 2", x.value(0, 0), 2);
        Checks.due("denominator of 2", x.value(0, 1), 1);
    }

    private static void values() {
        GroupAutomaton x = Checks.automaton("cyclic 4;width 2;word b;ring 0 1 1 3 3 3 0;");
        int[] due = {2, 2, 0, 3};
        for (int row = 0; row < 4; row++) {
            Checks.due("value", x.value(row, 0), due[row]);
            Checks.due("denominator of a value", x.value(row, 1), 1);
        }
        x.grow(2);
        Checks.due("value after grow", x.value(2, 0), 1);
        x.undo();
        Checks.due("value after undo", x.value(2, 0), 0);
        Checks.due("denominator of 0", x.value(2, 1), 1);
    }

    /** Each of the three may be the first that is asked of a rule. */
    private static void inAnyOrder() {
        String text = "cyclic 3;width 2;word a-;ring 1 2 0;";
        Checks.due("value first", Checks.automaton(text).value(1, 0), 2);
        Checks.due("sum first", Checks.automaton(text).sum(1, 2, 0), 1);
        GroupAutomaton x = Checks.automaton(text);
        Checks.due("sums", x.sums(), 2);
        x.setCase(1, 2, 0, 0);
        Checks.due("sum after setCase", x.sum(0, 2, 0), 1);
        x.undo();
        Checks.due("value after undo", x.value(1, 0), 2);
    }

    private static void wrongInputs() {
        GroupAutomaton x = Checks.automaton("cyclic 3;width 2;word a-;ring 0 1;");
        for (int wrong : new int[] {-1, 2, 3, Integer.MIN_VALUE, Integer.MAX_VALUE}) {
            Checks.index("row " + wrong, () -> x.sum(wrong, 0, 0));
            Checks.index("row " + wrong + " and part", () -> x.sum(wrong, 0, 2));
            Checks.index("row " + wrong, () -> x.value(wrong, 0));
            Checks.index("row " + wrong + " and part", () -> x.value(wrong, 2));
            Checks.argument("part " + wrong, () -> x.sum(1, 2, wrong));
            Checks.argument("part " + wrong, () -> x.value(1, wrong));
        }
        for (int wrong : new int[] {-1, 3, Integer.MIN_VALUE, Integer.MAX_VALUE}) {
            Checks.index("state " + wrong, () -> x.sum(0, wrong, 0));
            Checks.index("state " + wrong + " and part", () -> x.sum(0, wrong, -1));
        }
    }
}
