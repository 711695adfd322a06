/** Promises 27 to 35: the ring. */
public final class RingTest {
    private RingTest() {
    }

    public static void main(String[] args) {
        sizeAndCells();
        totals();
        densities();
        preimages();
        smallRings();
        firstPreimages();
        cycles();
        longCycles();
        limitOfCycles();
        fixed();
        kernels();
        Checks.end();
    }

    private static void sizeAndCells() {
        GroupAutomaton x = Checks.automaton("cyclic 5;width 2;word a;ring 4 3 2 1 0 1;");
        Checks.due("size", x.size(), 6);
        int[] due = {4, 3, 2, 1, 0, 1};
        for (int k = 0; k < 6; k++) {
            Checks.due("cell", x.cell(k), due[k]);
        }
        for (int wrong : new int[] {-1, 6, 15, 16, Integer.MIN_VALUE, Integer.MAX_VALUE}) {
            Checks.index("cell " + wrong, () -> x.cell(wrong));
            Checks.index("preimage " + wrong, () -> x.preimage(wrong));
        }
        Checks.due("size 16", Checks.automaton("klein;width 2;word a;ring 0 0 0 0 0 0 0 0 0 0 0 0 0 0 0 3;").size(), 16);
        Checks.due("size 1", new GroupAutomaton().size(), 1);
    }

    private static void totals() {
        Checks.due("total of one", Checks.automaton("sym;width 2;word a;ring 4;").total(), 4);
        Checks.due("total in order", Checks.automaton("sym;width 2;word a;ring 1 2;").total(), 4);
        Checks.due("total in order", Checks.automaton("sym;width 2;word a;ring 2 1;").total(), 3);
        Checks.due("total of four", Checks.automaton("sym;width 2;word a;ring 2 1 1 5;").total(), 4);
        Checks.due("total in cyclic", Checks.automaton("cyclic 6;width 2;word a;ring 5 5 5;").total(), 3);
    }

    private static void density(String ring, double due) {
        double got = Checks.automaton("cyclic 3;width 2;word a;ring " + ring + ";").density();
        Checks.due("density of " + ring, Double.doubleToLongBits(got), Double.doubleToLongBits(due));
    }

    private static void densities() {
        density("0", 0.0);
        density("2", 1.0);
        density("0 1 2", 2.0 / 3.0);
        density("0 0 1", 1.0 / 3.0);
        density("1 2 1 0 0 0 0", 3.0 / 7.0);
    }

    private static void preimages() {
        Checks.due("preimages by xor", Checks.automaton("cyclic 2;width 2;word a*b;ring 1 1 0;").preimages(), 2);
        Checks.due("preimages by xor", Checks.automaton("cyclic 2;width 2;word a*b;ring 1 1 1;").preimages(), 0);
        GroupAutomaton all = Checks.automaton("sym;width 3;word 0;ring 0 0 0 0 0 0 0 0 0 0 0 0 0 0 0 0;");
        Checks.due("all rings", all.preimages(), 2821109907456L);
        Checks.due("the first of all rings", all.preimage(15), 0);
        all.set(7, 1);
        Checks.due("no ring", all.preimages(), 0);
        Checks.none("no ring", () -> all.preimage(0));
        Checks.index("no ring and no cell", () -> all.preimage(16));
        Checks.due("one ring", Checks.automaton("sym;width 3;word c;ring 1 2 3 4 5;").preimages(), 1);
    }

    /** In rings with fewer cells than w a word has the same cell more than once. */
    private static void smallRings() {
        GroupAutomaton one = Checks.automaton("cyclic 6;width 3;word a*b*c;ring 3;");
        Checks.due("x + x + x = 3", one.preimages(), 3);
        Checks.due("the least of them", one.preimage(0), 1);
        Checks.due("fixed rings of 1 cell", one.fixed(1), 2);
        Checks.due("kernel of 1 cell", one.kernel(1), 3);
        Checks.due("step of 1 cell", one.step(1), 0);
        one.set(0, 1);
        Checks.due("step of 1 cell", one.step(1), 1);
        Checks.due("3 times 1", one.cell(0), 3);
        // the cells of two: 2y + x and 2x + y
        GroupAutomaton two = Checks.automaton("cyclic 6;width 3;word a*b*c;ring 1 2;");
        two.step(1);
        Checks.same("step of 2 cells", Checks.ringOf(two), "54");
        Checks.due("kernel of 2 cells", two.kernel(2), 3);
        GroupAutomaton pair = Checks.automaton("cyclic 5;width 2;word a*b*b;ring 4;");
        pair.step(1);
        Checks.same("step of 1 cell", Checks.ringOf(pair), "2");
    }

    private static void firstPreimage(String text, String due) {
        GroupAutomaton x = Checks.automaton(text);
        StringBuilder states = new StringBuilder();
        for (int k = 0; k < x.size(); k++) {
            states.append(x.preimage(k));
        }
        Checks.same("first preimage of " + text, states.toString(), due);
    }

    private static void firstPreimages() {
        firstPreimage("cyclic 2;width 2;word a*b;ring 1 1 0;", "010");
        firstPreimage("cyclic 3;width 2;word b;ring 0 1 2;", "201");
        firstPreimage("cyclic 3;width 3;word a;ring 0 1 2;", "120");
        firstPreimage("cyclic 3;width 3;word b;ring 0 1 2;", "012");
        firstPreimage("cyclic 3;width 3;word c;ring 0 1 2;", "201");
        firstPreimage("cyclic 2;width 2;word b;ring 1;", "1");
        firstPreimage("cyclic 2;width 3;word a*c;ring 0 0 0 0;", "0000");
        firstPreimage("cyclic 2;width 3;word a*c;ring 0 1 0 1;", "0010");
        firstPreimage("cyclic 4;width 2;word a*a*b*b;ring 2 0 2;", "011");
    }

    private static void cycle(String text, int steps, int period) {
        GroupAutomaton x = Checks.automaton(text);
        String ring = Checks.ringOf(x);
        Checks.due("steps before the cycle of " + text, x.cycle(0), steps);
        Checks.due("cycle of " + text, x.cycle(1), period);
        Checks.same("the ring stays", Checks.ringOf(x), ring);
        Checks.state("a cycle is no change", x::undo);
    }

    private static void cycles() {
        cycle("cyclic 2;width 2;word a;ring 0 1;", 0, 1);
        cycle("cyclic 2;width 2;word b;ring 0 1 1 1 1;", 0, 5);
        cycle("cyclic 2;width 2;word 0;ring 0 1;", 1, 1);
        cycle("cyclic 2;width 2;word a*b;ring 1 0 0 0;", 4, 1);
        cycle("cyclic 2;width 2;word a*b;ring 1 0 0;", 1, 3);
        cycle("cyclic 2;width 2;word a*b;ring 1 0 0 0 0 0;", 2, 6);
        cycle("cyclic 6;width 2;word a*1;ring 3;", 0, 6);
        GroupAutomaton x = new GroupAutomaton();
        for (int wrong : new int[] {-1, 2, Integer.MIN_VALUE, Integer.MAX_VALUE}) {
            Checks.argument("cycle(" + wrong + ")", () -> x.cycle(wrong));
        }
    }

    private static void longCycles() {
        // by xor of neighbours a single 1 in 11 cells comes back after 341 steps, in 13 cells after 819
        cycle("cyclic 2;width 2;word a*b;ring 1 0 0 0 0 0 0 0 0 0 0;", 1, 341);
        cycle("cyclic 2;width 2;word a*b;ring 1 0 0 0 0 0 0 0 0 0 0 0 0;", 1, 819);
        // 2a + b on five states is a bijection of the rings of 11 cells with a long way around
        GroupAutomaton x = Checks.automaton("cyclic 5;width 2;word a*a*b;ring 1 0 0 0 0 0 0 0 0 0 0;");
        Checks.none("too long a cycle", () -> x.cycle(0));
        Checks.none("too long a cycle", () -> x.cycle(1));
        Checks.argument("too long a cycle and what", () -> x.cycle(2));
    }

    /** The steps before the cycle and the cycle make 1001 steps, then 1000. */
    private static void limitOfCycles() {
        limitOfCycle("cyclic 3;width 3;word 1*a*a*b*b;case 2 1 1=2;case 0 1 2=2;case 0 1 0=0;"
                + "ring 1 0 0 0 0 0 1 0 0 0 2 0 1 0;", 80, 976, 24);
        limitOfCycle("cyclic 6;width 3;word 5*a*c*c;case 5 2 0=4;case 5 0 1=3;case 4 3 3=0;case 1 1 0=2;"
                + "ring 0 0 0 2 0 0 4 0 3 2 0;", 95, 758, 242);
        limitOfCycle("cyclic 5;width 2;word 0*a*b;case 2 2=0;ring 0 0 0 0 0 4 0 2 0 0 0 4 3 0 0 1;", 13, 999, 1);
        limitOfCycle("cyclic 6;width 2;word 0*a*b*b;case 2 0=1;case 1 5=4;case 3 4=4;ring 4 5 0 0 4 2 5 0 0 0;",
                79, 0, 1000);
    }

    private static void limitOfCycle(String text, int steps, int due, int period) {
        GroupAutomaton x = Checks.automaton(text);
        x.step(steps);
        Checks.none("the cycle of 1001 steps", () -> x.cycle(0));
        Checks.none("the cycle of 1001 steps", () -> x.cycle(1));
        x.step(1);
        Checks.due("steps before the cycle", x.cycle(0), due);
        Checks.due("cycle", x.cycle(1), period);
        x.step(100);
        Checks.due("steps before the cycle", x.cycle(0), Math.max(due - 100, 0));
        Checks.due("cycle", x.cycle(1), period);
    }

    private static void fixed() {
        GroupAutomaton all = Checks.automaton("sym;width 3;word b;ring 0;");
        Checks.due("all rings are fixed", all.fixed(16), 2821109907456L);
        Checks.due("all rings are fixed", all.fixed(1), 6);
        GroupAutomaton shift = Checks.automaton("cyclic 5;width 2;word b;ring 0 1;");
        Checks.due("fixed by the shift", shift.fixed(7), 5);
        GroupAutomaton xor = Checks.automaton("cyclic 2;width 3;word a*b*c;ring 0;");
        Checks.due("left equals right", xor.fixed(5), 2);
        Checks.due("left equals right", xor.fixed(6), 4);
        Checks.due("none is fixed", Checks.automaton("cyclic 2;width 2;word a*1;ring 0;").fixed(4), 0);
        for (int wrong : new int[] {-1, 0, 17, Integer.MIN_VALUE, Integer.MAX_VALUE}) {
            Checks.argument("fixed(" + wrong + ")", () -> xor.fixed(wrong));
            Checks.argument("kernel(" + wrong + ")", () -> xor.kernel(wrong));
        }
        Checks.same("the ring stays", Checks.ringOf(shift), "01");
    }

    private static void kernels() {
        GroupAutomaton xor = Checks.automaton("cyclic 2;width 3;word a*b*c;ring 1 1;");
        Checks.due("kernel(3)", xor.kernel(3), 4);
        Checks.due("kernel(16)", xor.kernel(16), 1);
        Checks.due("kernel(15)", xor.kernel(15), 4);
        Checks.due("kernel(1)", xor.kernel(1), 1);
        Checks.due("kernel(2)", xor.kernel(2), 1);
        Checks.due("kernel of all", Checks.automaton("cyclic 6;width 2;word 0;ring 0;").kernel(16), 2821109907456L);
        Checks.due("kernel of a constant", Checks.automaton("cyclic 6;width 2;word 1;ring 0;").kernel(16), 0);
        Checks.due("kernel of a rule with cases", Checks.automaton("cyclic 3;width 2;word 1;case 0 1=0;case 1 0=0;ring 0;")
                .kernel(6), 2);
        Checks.same("the ring stays", Checks.ringOf(xor), "11");
    }
}
