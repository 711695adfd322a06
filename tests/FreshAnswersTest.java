import java.util.EnumSet;

/**
 * What an object has answered, or held, before does not show: after a load, a change or an undo it answers as one
 * that was never asked. Promise 4: "group, rule and ring are replaced, the slots are empty, and nothing can be
 * undone".
 */
public final class FreshAnswersTest {
    /** Great ones and small ones, with and without diamonds, inverse rules, cases and more sums than one. */
    private static final String[] TEXTS = {
        "cyclic 2;width 2;word a*b;ring 1;",
        "cyclic 2;width 2;word b;ring 0 1;",
        "cyclic 2;width 3;word c;ring 1 0 1;",
        "cyclic 3;width 2;word a;case 1 0=2;case 2 0=1;ring 2 1 0 2;",
        "cyclic 3;width 2;word 1;ring 1 1;",
        "cyclic 3;width 2;word 0;case 0 0=2;case 0 2=1;case 1 0=2;case 1 1=1;case 1 2=2;case 2 1=1;ring 2;",
        "cyclic 3;width 3;word b;case 0 1 0=2;case 0 2 0=1;case 1 1 1=0;ring 1 2 2 1 1;",
        "klein;width 2;word a;case 0 1=1;case 0 3=1;case 1 0=0;case 2 1=3;case 2 3=3;case 3 0=2;case 3 2=2;ring 3 1;",
        "cyclic 4;width 3;word a*a*b*c*c;ring 1 2 3 0 3 2;",
        "cyclic 6;width 2;word a*a*a*b*b*b*b;ring 5 4 3 2 1;",
        "sym;width 3;word a*3*c-;ring 1 2 3 4;",
        "sym;width 2;word 3*b*4;ring 4 0 4 5 1 2 5 3 5 0 1 4 2 5 0 1;",
        "cyclic 5;width 3;word b;case 4 4 4=0;ring 1 2 3 4 0 4 3 2 1 0 1 2 3 4 4 4;",
    };

    private FreshAnswersTest() {
    }

    public static void main(String[] args) {
        for (String one : TEXTS) {
            for (String other : TEXTS) {
                loads(one, other);
            }
            changes(one);
        }
        inverseRules();
        movedCells();
        Checks.end();
    }

    private static GroupAutomaton automaton(String text) {
        return Checks.automaton(text);
    }

    /** An object with both slots filled and a change to undo, of which all of the view was asked. */
    private static GroupAutomaton asked(String text, Twins.View view) {
        GroupAutomaton x = automaton(text);
        x.keep(0);
        x.set(0, 1);
        x.keep(1);
        Twins.tell(x, view, new StringBuilder());
        return x;
    }

    private static void loads(String one, String other) {
        for (Twins.View view : Twins.View.values()) {
            Twins.same(other + " after " + one, () -> automaton(other), x -> 0, () -> asked(one, view),
                    x -> loaded(x, other), EnumSet.of(view));
        }
    }

    private static int loaded(GroupAutomaton x, String text) {
        x.truncate(0);
        Checks.write(x, text);
        return x.load();
    }

    private static void changes(String text) {
        Twins.Use[] changes = {x -> x.setCase(0, 1, 1, 0), x -> x.setCase(1, 0, 1, 1), x -> x.setCase(0, 0, 0, 1),
            x -> x.step(3), x -> x.back(2), x -> x.set(0, 0), x -> x.grow(1), x -> x.rotate(-1), GroupAutomaton::undo};
        Twins.View[] views = {Twins.View.RULE, Twins.View.ROWS, Twins.View.SUMS, Twins.View.RING, Twins.View.PASTS,
            Twins.View.SIZES};
        for (int k = 0; k < changes.length; k++) {
            for (Twins.View view : views) {
                Twins.same("change " + k + " of " + text, () -> asked(text, Twins.View.ERRORS), changes[k],
                        () -> asked(text, view), changes[k], EnumSet.of(view));
            }
        }
    }

    private static void inverse(GroupAutomaton x, int width, int shift) {
        Checks.due("the width of the inverse rule", x.inverse(0), width);
        Checks.due("its shift", x.inverse(1), shift);
    }

    /** From one inverse rule to another: by setCase, by undo and by load. */
    private static void inverseRules() {
        GroupAutomaton x = automaton("cyclic 2;width 2;word a;ring 0 1 1;");
        inverse(x, 1, 0);
        x.setCase(0, 1, 0, 1);
        Checks.none("no inverse rule", () -> x.inverse(0));
        x.setCase(1, 0, 0, 0);
        inverse(x, 1, 1);
        Checks.due("back", x.back(1), 2);
        Checks.same("back", Checks.ringOf(x), "101");
        x.undo();
        x.undo();
        Checks.none("no inverse rule", () -> x.back(1));
        x.undo();
        inverse(x, 1, 0);
        Checks.due("back", x.back(1), 0);
        loaded(x, "cyclic 4;width 2;word a*b*b;ring 1 2;");
        inverse(x, 2, 0);
        loaded(x, "cyclic 4;width 3;word c-;ring 1 2;");
        inverse(x, 1, 2);
        loaded(x, "cyclic 4;width 3;word c*a;ring 1 2;");
        Checks.none("no inverse rule", () -> x.inverseOf(0));
    }

    /** Only the cells of the ring count: not those of a longer ring before it. */
    private static void movedCells() {
        GroupAutomaton x = automaton("cyclic 3;width 2;word b;ring 1 2 0 1 2;");
        x.step(1);
        loaded(x, "cyclic 3;width 2;word b;ring 0 0 0;");
        Checks.due("no cell", x.step(1), 0);
        Checks.due("no cell", x.back(1), 0);
        GroupAutomaton y = automaton("cyclic 3;width 2;word b;ring 0 1;");
        y.grow(1);
        y.grow(2);
        Checks.due("three of four cells", y.step(1), 3);
        y.undo();
        y.undo();
        Checks.due("three cells", y.step(3), 0);
        y.undo();
        y.undo();
        Checks.due("two cells", y.back(2), 0);
        Checks.due("two cells", y.back(1), 2);
    }
}
