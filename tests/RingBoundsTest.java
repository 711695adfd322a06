/**
 * The bounds in "Rules" on rings, and in promises 27 to 35: of each sentence that names one, the last value that is
 * right and the first one beyond it.
 */
public final class RingBoundsTest {
    private static final String SIXTEEN = "ring 1 2 0 1 2 0 1 2 0 1 2 0 1 2 0 2;";

    private RingBoundsTest() {
    }

    public static void main(String[] args) {
        cellsOfEachSize();
        afterChangesOfTheSize();
        behindTheLastCell();
        ringsOf1Cell();
        ringsOf2Cells();
        ringsOf1CellBackwards();
        totals();
        densities();
        preimagesByBrute();
        noPreimages();
        cellsOfPreimage();
        firstOfSeveralPreimages();
        whatsOfCycle();
        cyclesFromTheStart();
        the1000thRing();
        sizesOfFixedAndKernel();
        fixedBySize();
        kernelsBySize();
        Checks.end();
    }

    private static GroupAutomaton ring(String text) {
        return Checks.automaton(text);
    }

    private static int[] beside(int least, int greatest) {
        return new int[] {least - 1, greatest + 1, greatest + 2, Integer.MIN_VALUE, Integer.MAX_VALUE};
    }

    // ---- cells

    /** Promises 27, 28 and 32: "if there is no such cell", for rings of 1 to 16 cells. */
    private static void cellsOfEachSize() {
        for (int size = 1; size <= 16; size++) {
            GroupAutomaton x = ring("cyclic 3;width 2;word a;ring" + " 2".repeat(size - 1) + " 1;");
            Checks.due("size", x.size(), size);
            Checks.due("the first cell", x.cell(0), size == 1 ? 1 : 2);
            Checks.due("the last cell", x.cell(size - 1), 1);
            Checks.due("the preimage at the last cell", x.preimage(size - 1), 1);
            for (int wrong : beside(0, size - 1)) {
                Checks.index("cell " + wrong + " of " + size, () -> x.cell(wrong));
                Checks.index("preimage at " + wrong + " of " + size, () -> x.preimage(wrong));
            }
        }
    }

    private static void afterChangesOfTheSize() {
        GroupAutomaton x = ring("cyclic 3;width 2;word a;ring 1;");
        Checks.index("before it grows", () -> x.cell(1));
        x.grow(2);
        Checks.due("after it has grown", x.cell(1), 2);
        Checks.due("after it has grown", x.size(), 2);
        Checks.index("after it has grown", () -> x.cell(2));
        x.undo();
        Checks.index("after undo", () -> x.cell(1));
        Checks.due("after undo", x.size(), 1);
        Checks.write(x, "cyclic 3;width 2;word a;" + SIXTEEN);
        x.load();
        Checks.due("after load", x.cell(15), 2);
        Checks.write(x, "cyclic 3;width 2;word a;ring 0 1;");
        x.load();
        Checks.due("after load", x.size(), 2);
        Checks.index("after load", () -> x.cell(2));
        Checks.index("after load", () -> x.cell(15));
    }

    /** "In a ring, the cell behind the last one is the first one." */
    private static void behindTheLastCell() {
        stepsTo("cyclic 3;width 2;word b;ring 1 2 0 0;", "2001");
        stepsTo("cyclic 3;width 2;word a;ring 1 2 0 0;", "1200");
        stepsTo("cyclic 3;width 3;word a;ring 0 0 1 2;", "2001");
        stepsTo("cyclic 3;width 3;word b;ring 0 0 1 2;", "0012");
        stepsTo("cyclic 3;width 3;word c;ring 1 0 0 2;", "0021");
        stepsTo("cyclic 3;width 2;word a*b;ring 1 0 0 1;", "1012");
        stepsTo("cyclic 3;width 3;word a*c*c;ring 1 0 0 0;", "0102");
        stepsTo("cyclic 3;width 2;word b;" + SIXTEEN, "2012012012012021");
        stepsTo("cyclic 3;width 3;word a;" + SIXTEEN, "2120120120120120");
        stepsTo("sym;width 2;word a*b;ring 1 2;", "43");
        stepsTo("sym;width 3;word a*b*c;ring 1 2 0;", "443");
    }

    private static void stepsTo(String text, String due) {
        GroupAutomaton x = ring(text);
        x.step(1);
        Checks.same("a step of " + text, Checks.ringOf(x), due);
    }

    /** "The rings may have fewer cells than w": all cells of the word are the one cell. */
    private static void ringsOf1Cell() {
        for (int w = 2; w <= 3; w++) {
            for (int state = 0; state < 6; state++) {
                GroupAutomaton x = ring("cyclic 6;width " + w + ";word a*a*b" + (w == 3 ? "*c*1;ring " : "*1;ring ") + state + ";");
                int due = ((w + 1) * state + 1) % 6;
                Checks.due("a step of 1 cell", x.step(1), due == state ? 0 : 1);
                Checks.due("a step of 1 cell", x.cell(0), due);
            }
        }
        // 3x + 1 on 0 to 5 is 1 4 1 4 1 4, 4x + 1 is 1 5 3 1 5 3
        GroupAutomaton two = ring("cyclic 6;width 2;word a*a*b*1;ring 4;");
        Checks.due("preimages of 1 cell", two.preimages(), 3);
        Checks.due("the first preimage of 1 cell", two.preimage(0), 1);
        Checks.due("steps to the cycle of 1 cell", two.cycle(0), 0);
        Checks.due("cycle of 1 cell", two.cycle(1), 2);
        Checks.due("fixed rings of 1 cell", two.fixed(1), 0);
        Checks.due("kernel of 1 cell", two.kernel(1), 0);
        two.set(0, 0);
        Checks.due("no preimage of 1 cell", two.preimages(), 0);
        Checks.due("steps to the cycle of 1 cell", two.cycle(0), 1);
        GroupAutomaton three = ring("cyclic 6;width 3;word a*a*b*c*1;ring 5;");
        Checks.due("preimages of 1 cell", three.preimages(), 2);
        Checks.due("the first preimage of 1 cell", three.preimage(0), 1);
        Checks.due("steps to the cycle of 1 cell", three.cycle(0), 0);
        Checks.due("cycle of 1 cell", three.cycle(1), 3);
        Checks.due("fixed rings of 1 cell", three.fixed(1), 0);
        Checks.due("kernel of 1 cell", three.kernel(1), 0);
        GroupAutomaton xor = ring("cyclic 6;width 3;word a*a*b*c*2;ring 2;");
        Checks.due("fixed rings of 1 cell", xor.fixed(1), 0);
        Checks.due("kernel of 1 cell", xor.kernel(1), 2);
        Checks.due("cycle of 1 cell", xor.cycle(1), 3);
    }

    /** Width 3 and 2 cells: the cell before and the next one are the same. */
    private static void ringsOf2Cells() {
        GroupAutomaton x = ring("cyclic 5;width 3;word a*b*b*c*c*c;ring 1 3;");
        // 2x + 4y and 2y + 4x
        Checks.due("a step of 2 cells", x.step(1), 2);
        Checks.same("a step of 2 cells", Checks.ringOf(x), "40");
        Checks.due("preimages of 2 cells", x.preimages(), 1);
        Checks.due("the preimage of 2 cells", x.preimage(0), 1);
        Checks.due("the preimage of 2 cells", x.preimage(1), 3);
        Checks.due("fixed rings of 2 cells", x.fixed(2), 5);
        Checks.due("kernel of 2 cells", x.kernel(2), 1);
        GroupAutomaton y = ring("cyclic 2;width 3;word a*c;ring 0 0;");
        Checks.due("preimages of 2 cells", y.preimages(), 4);
        Checks.due("kernel of 2 cells", y.kernel(2), 4);
        Checks.due("fixed rings of 2 cells", y.fixed(2), 1);
        y.set(1, 1);
        Checks.due("no preimage of 2 cells", y.preimages(), 0);
        GroupAutomaton z = ring("cyclic 3;width 3;word a;ring 1 2;");
        Checks.due("preimages of 2 cells", z.preimages(), 1);
        Checks.due("the preimage of 2 cells", z.preimage(0), 2);
        Checks.due("fixed rings of 2 cells", z.fixed(2), 3);
        Checks.due("cycle of 2 cells", z.cycle(1), 2);
    }

    /** Inverse rules have words of v cells, which may be more than the ring has. */
    private static void ringsOf1CellBackwards() {
        String[] tables = {"021345012435012345021345321045410325", "335330413114222222101443040001554555"};
        for (String table : tables) {
            for (int state = 0; state < 6; state++) {
                GroupAutomaton x = Checks.table("sym", 2, table, Integer.toString(state));
                x.step(1);
                x.back(1);
                Checks.due("back of 1 cell", x.cell(0), state);
                x.back(3);
                x.step(3);
                Checks.due("back and forth of 1 cell", x.cell(0), state);
            }
            for (int word = 0; word < 36; word++) {
                GroupAutomaton x = Checks.table("sym", 2, table, word / 6 + " " + word % 6);
                String before = Checks.ringOf(x);
                x.back(1);
                x.step(1);
                Checks.same("back and forth of 2 cells", Checks.ringOf(x), before);
            }
        }
    }

    /** Promise 29: "of all cells, in their order". */
    private static void totals() {
        Checks.due("total of 1 cell", ring("sym;width 2;word a;ring 3;").total(), 3);
        Checks.due("total of 2 cells", ring("sym;width 2;word a;ring 1 2;").total(), 4);
        Checks.due("total of 2 cells", ring("sym;width 2;word a;ring 2 1;").total(), 3);
        Checks.due("total of 3 cells", ring("sym;width 2;word a;ring 1 2 5;").total(), 2);
        Checks.due("total of 16 cells", ring("sym;width 2;word a;ring" + " 3".repeat(15) + " 1;").total(), 1);
        Checks.due("total of 16 cells", ring("sym;width 2;word a;ring 1" + " 3".repeat(15) + ";").total(), 1);
        Checks.due("total of 16 cells", ring("sym;width 2;word a;ring 1" + " 3".repeat(14) + " 0;").total(), 2);
        Checks.due("total of zeros", ring("sym;width 2;word a;ring" + " 0".repeat(16) + ";").total(), 0);
    }

    /** Promise 30: from none of the cells to all of them. */
    private static void densities() {
        for (int size = 1; size <= 16; size++) {
            for (int filled = 0; filled <= size; filled++) {
                GroupAutomaton x = ring("sym;width 2;word a;ring" + " 0".repeat(size - filled) + " 5".repeat(filled) + ";");
                double due = filled / (double) size;
                Checks.due("density of " + filled + " in " + size, Double.doubleToLongBits(x.density()),
                        Double.doubleToLongBits(due));
            }
        }
    }

    // ---- preimages

    private static final String[] SMALL = {"cyclic 2;width 2;word a*b;case 1 0=0", "cyclic 2;width 3;word a*c;case 1 1 1=1",
        "cyclic 3;width 2;word a*b*b;case 1 1=1", "cyclic 3;width 3;word b;case 0 2 1=0;case 1 1 0=2", "klein;width 2;word a*b*1",
        "cyclic 2;width 3;word a*b*c*1"};

    /** Promises 31 and 32, for all rings of up to 4 cells: the rings are tried, from the first one on. */
    private static void preimagesByBrute() {
        for (String text : SMALL) {
            for (int size = 1; size <= 4; size++) {
                int g = ring(text + ";ring 0;").order();
                int rings = (int) Math.pow(g, size);
                String[] images = new String[rings];
                for (int ring = 0; ring < rings; ring++) {
                    GroupAutomaton x = ring(text + ";ring" + cells(ring, g, size) + ";");
                    x.step(1);
                    images[ring] = Checks.ringOf(x);
                }
                for (int ring = 0; ring < rings; ring++) {
                    GroupAutomaton x = ring(text + ";ring" + cells(ring, g, size) + ";");
                    checkPreimages(x, images, g);
                }
            }
        }
    }

    private static String cells(int ring, int g, int size) {
        StringBuilder cells = new StringBuilder();
        int rest = ring;
        for (int k = 0; k < size; k++) {
            cells.insert(0, " " + rest % g);
            rest /= g;
        }
        return cells.toString();
    }

    private static void checkPreimages(GroupAutomaton x, String[] images, int g) {
        String goal = Checks.ringOf(x);
        int count = 0;
        int first = -1;
        for (int ring = images.length - 1; ring >= 0; ring--) {
            if (images[ring].equals(goal)) {
                count++;
                first = ring;
            }
        }
        Checks.due("preimages of " + goal, x.preimages(), count);
        for (int cell = 0; cell < goal.length(); cell++) {
            int asked = cell;
            String due = first < 0 ? "NoSuchElementException" : cells(first, g, goal.length()).substring(2 * cell + 1, 2 * cell + 2);
            Checks.same("preimage of " + goal, Checks.answer(() -> x.preimage(asked)), due);
        }
    }

    /** Promise 32: "if there is no such ring"; before it, "if there is no such cell". */
    private static void noPreimages() {
        GroupAutomaton x = ring("sym;width 3;word 0;ring" + " 0".repeat(15) + " 1;");
        Checks.due("no ring", x.preimages(), 0);
        for (int cell = 0; cell < 16; cell++) {
            int asked = cell;
            Checks.none("no ring at " + cell, () -> x.preimage(asked));
        }
        for (int wrong : beside(0, 15)) {
            Checks.index("no ring at " + wrong, () -> x.preimage(wrong));
        }
        x.set(15, 0);
        Checks.due("all rings", x.preimages(), 2821109907456L);
        Checks.due("the first of all rings", x.preimage(15), 0);
        Checks.due("one ring", ring("sym;width 3;word a;ring" + " 4".repeat(16) + ";").preimages(), 1);
    }

    private static void cellsOfPreimage() {
        firstPreimage("cyclic 3;width 2;word b;" + SIXTEEN, "2120120120120120");
        firstPreimage("cyclic 3;width 3;word c;" + SIXTEEN, "2120120120120120");
        firstPreimage("cyclic 3;width 3;word a;" + SIXTEEN, "2012012012012021");
        firstPreimage("cyclic 3;width 3;word b;" + SIXTEEN, "1201201201201202");
        firstPreimage("cyclic 3;width 2;word a;ring 2;", "2");
    }

    private static void firstPreimage(String text, String due) {
        GroupAutomaton x = ring(text);
        StringBuilder first = new StringBuilder();
        for (int cell = 0; cell < x.size(); cell++) {
            first.append(x.preimage(cell));
        }
        Checks.same("the first preimage of " + text, first.toString(), due);
    }

    /** "The least state at the first cell in which they differ." */
    private static void firstOfSeveralPreimages() {
        firstPreimage("cyclic 2;width 2;word a*b;ring 1 0 1;", "011");
        firstPreimage("cyclic 2;width 3;word a*c;ring 1 0 1 0;", "0001");
        firstPreimage("cyclic 2;width 3;word a*b*c;ring 1 1 1;", "001");
        firstPreimage("cyclic 6;width 2;word a*a*a*b*b*b;ring 3 0 3 0;", "0110");
        firstPreimage("sym;width 2;word 0;ring 0 0 0;", "000");
        firstPreimage("cyclic 3;width 2;word 0;case 0 0=1;case 0 1=1;case 0 2=1;ring 0 0;", "11");
        firstPreimage("cyclic 3;width 2;word 0;case 0 0=1;case 0 1=1;case 0 2=1;ring 0 1;", "10");
        firstPreimage("cyclic 3;width 3;word 0;case 0 0 0=1;case 1 1 1=1;case 2 2 2=1;ring 1;", "0");
        firstPreimage("cyclic 3;width 3;word 0;case 0 0 0=1;case 1 1 1=1;case 2 2 2=1;ring 0 0;", "01");
    }

    // ---- cycles

    /** Promise 33: "if what is out of range"; before it there is no exception. */
    private static void whatsOfCycle() {
        GroupAutomaton x = ring("cyclic 3;width 2;word b*1;ring 0 1;");
        GroupAutomaton tooLong = ring("cyclic 5;width 2;word a*a*b;ring 1 0 0 0 0 0 0 0 0 0 0;");
        for (int wrong : beside(0, 1)) {
            Checks.argument("cycle by " + wrong, () -> x.cycle(wrong));
            Checks.argument("too long a cycle by " + wrong, () -> tooLong.cycle(wrong));
        }
        Checks.due("cycle by 0", x.cycle(0), 0);
        Checks.due("cycle by 1", x.cycle(1), 6);
        Checks.none("too long a cycle", () -> tooLong.cycle(0));
        Checks.none("too long a cycle", () -> tooLong.cycle(1));
    }

    /** "Beginning with the present one": it may come again itself, or the first one behind it. */
    private static void cyclesFromTheStart() {
        cycle("cyclic 3;width 2;word a;ring 1 2;", 0, 1);
        cycle("cyclic 3;width 2;word b;ring 1 2;", 0, 2);
        cycle("cyclic 3;width 2;word b;ring 1 1;", 0, 1);
        cycle("cyclic 3;width 2;word b;" + SIXTEEN, 0, 16);
        cycle("cyclic 3;width 2;word 2;ring 1 2;", 1, 1);
        cycle("cyclic 3;width 2;word 2;ring 2 2;", 0, 1);
        cycle("cyclic 2;width 2;word a*b;ring" + " 1".repeat(16) + ";", 1, 1);
        cycle("cyclic 2;width 2;word a*b;ring 1" + " 0".repeat(15) + ";", 16, 1);
        cycle("cyclic 2;width 2;word a*b;ring 1 0 0 0 0 0 0 0 0 0 0 0 0;", 1, 819);
        // a 2 goes down to 1, a 1 down to 0
        cycle("cyclic 3;width 2;word a;case 2 0=1;case 2 1=1;case 2 2=1;case 1 0=0;case 1 1=0;case 1 2=0;ring 2 0;", 2, 1);
    }

    private static void cycle(String text, int steps, int period) {
        GroupAutomaton x = ring(text);
        Checks.due("steps to the cycle of " + text, x.cycle(0), steps);
        Checks.due("cycle of " + text, x.cycle(1), period);
    }

    /** "If none of the first 1000 rings behind the present one has come before": the 1000th one, and the 1001st. */
    private static void the1000thRing() {
        // steps before the cycle and cycle make 1001, and after one step 1000
        String[] texts = {
            "cyclic 3;width 3;word 1*a*a*b*b;case 2 1 1=2;case 0 1 2=2;case 0 1 0=0;ring 1 0 0 0 0 0 1 0 0 0 2 0 1 0;",
            "cyclic 6;width 3;word 5*a*c*c;case 5 2 0=4;case 5 0 1=3;case 4 3 3=0;case 1 1 0=2;ring 0 0 0 2 0 0 4 0 3 2 0;",
            "cyclic 5;width 2;word 0*a*b;case 2 2=0;ring 0 0 0 0 0 4 0 2 0 0 0 4 3 0 0 1;",
            "cyclic 6;width 2;word 0*a*b*b;case 2 0=1;case 1 5=4;case 3 4=4;ring 4 5 0 0 4 2 5 0 0 0;"};
        int[] before = {80, 95, 13, 79};
        int[] steps = {976, 758, 999, 0};
        for (int k = 0; k < texts.length; k++) {
            GroupAutomaton x = ring(texts[k]);
            x.step(before[k]);
            Checks.none("1001 steps", () -> x.cycle(0));
            Checks.none("1001 steps", () -> x.cycle(1));
            x.step(1);
            Checks.due("1000 steps, to the cycle", x.cycle(0), steps[k]);
            Checks.due("1000 steps, in the cycle", x.cycle(1), 1000 - steps[k]);
            x.undo();
            Checks.none("1001 steps again", () -> x.cycle(0));
        }
    }

    // ---- sizes

    /** Promises 34 and 35: "if cells is out of range", 1 to 16. */
    private static void sizesOfFixedAndKernel() {
        GroupAutomaton x = ring("cyclic 3;width 2;word a;ring 0 1;");
        for (int cells : new int[] {-1, 0, 1, 16, 17, 18, Integer.MIN_VALUE, Integer.MAX_VALUE}) {
            if (cells == 1 || cells == 16) {
                Checks.due("fixed(" + cells + ")", x.fixed(cells), cells == 1 ? 3 : 43046721);
                Checks.due("kernel(" + cells + ")", x.kernel(cells), 1);
            } else {
                Checks.argument("fixed(" + cells + ")", () -> x.fixed(cells));
                Checks.argument("kernel(" + cells + ")", () -> x.kernel(cells));
            }
        }
        Checks.due("the size is none of the ring's", x.size(), 2);
    }

    /** Promise 34, for all sizes. */
    private static void fixedBySize() {
        long all = 1;
        GroupAutomaton whole = ring("sym;width 2;word a;ring 0;");
        GroupAutomaton wide = ring("sym;width 3;word b;ring 0;");
        GroupAutomaton shift = ring("sym;width 3;word c;ring 0;");
        GroupAutomaton turned = ring("sym;width 2;word a-;ring 0;");
        GroupAutomaton constant = ring("sym;width 3;word 5;ring 0;");
        long orderTwo = 1;
        for (int size = 1; size <= 16; size++) {
            all *= 6;
            orderTwo *= 4;
            Checks.due("fixed by a, " + size, whole.fixed(size), all);
            Checks.due("fixed by b, " + size, wide.fixed(size), all);
            Checks.due("fixed by c, " + size, shift.fixed(size), 6);
            Checks.due("fixed by a-, " + size, turned.fixed(size), orderTwo);
            Checks.due("fixed by 5, " + size, constant.fixed(size), 1);
        }
        // rings of zeros and ones in which no two ones stand side by side: 1 3 4 7 11 .. (the numbers of Lucas)
        GroupAutomaton apart = ring("cyclic 2;width 2;word a;case 1 1=0;ring 0;");
        long[] lucas = {1, 3, 4, 7, 11, 18, 29, 47, 76, 123, 199, 322, 521, 843, 1364, 2207};
        for (int size = 1; size <= 16; size++) {
            Checks.due("ones apart, " + size, apart.fixed(size), lucas[size - 1]);
        }
    }

    /** Promise 35, for all sizes. */
    private static void kernelsBySize() {
        long all = 1;
        GroupAutomaton whole = ring("cyclic 6;width 3;word 0;ring 1;");
        GroupAutomaton none = ring("cyclic 6;width 3;word 1;ring 0;");
        GroupAutomaton xor = ring("cyclic 2;width 2;word a*b;ring 1;");
        GroupAutomaton outer = ring("cyclic 2;width 3;word a*c;ring 1 1 1;");
        GroupAutomaton three = ring("cyclic 2;width 3;word a*b*c;ring 1;");
        GroupAutomaton apart = ring("cyclic 2;width 2;word 0;case 1 1=1;ring 1;");
        long[] lucas = {1, 3, 4, 7, 11, 18, 29, 47, 76, 123, 199, 322, 521, 843, 1364, 2207};
        for (int size = 1; size <= 16; size++) {
            all *= 6;
            Checks.due("kernel of 0, " + size, whole.kernel(size), all);
            Checks.due("kernel of 1, " + size, none.kernel(size), 0);
            Checks.due("kernel of a*b, " + size, xor.kernel(size), 2);
            Checks.due("kernel of a*c, " + size, outer.kernel(size), size % 2 == 0 ? 4 : 2);
            Checks.due("kernel of a*b*c, " + size, three.kernel(size), size % 3 == 0 ? 4 : 1);
            Checks.due("kernel of ones apart, " + size, apart.kernel(size), lucas[size - 1]);
        }
    }
}
