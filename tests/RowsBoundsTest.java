/**
 * The bounds in "Surjective and injective", "Inverse rules", "Conserved sums" and in promises 19 to 26: of each
 * sentence that names one, the last value that is right and the first one beyond it.
 */
public final class RowsBoundsTest {
    private RowsBoundsTest() {
    }

    public static void main(String[] args) {
        surjectiveJustIfNoDiamond();
        injectiveJustIfNoTwoRows();
        lengthsOfDiamonds();
        widthsAndShifts();
        widthsNotLookedAt();
        widthsBeyond5();
        whatsOfInverse();
        digitsOfInverseOf();
        inverseOfUndoesTheRule();
        inverseOfIsRefusedFirst();
        dimensions();
        ringsOfEachSize();
        reducedForm();
        fractions();
        rowsAndStatesOfSum();
        partsOfSumAndValue();
        valuesOfTheRing();
        Checks.end();
    }

    private static GroupAutomaton rule(String text) {
        return Checks.automaton(text + ";ring 0;");
    }

    // ---- rows

    private static void rows(String what, GroupAutomaton x, boolean isSurjective, boolean isInjective) {
        Checks.due(what + " surjective", x.isSurjective(), isSurjective);
        Checks.due(what + " injective", x.isInjective(), isInjective);
        if (isSurjective) {
            Checks.none(what + " diamond", x::diamond);
        } else {
            Checks.due(what + " diamond", x.diamond() >= x.width(), true);
        }
    }

    /** "The rule is surjective on bi-infinite rows just if there is no diamond." */
    private static void surjectiveJustIfNoDiamond() {
        for (int w = 2; w <= 3; w++) {
            String text = "cyclic 3;width " + w + ";word a*b";
            rows(text, rule(text), true, false);
            for (int word = 0; word < (w == 2 ? 9 : 27); word++) {
                // a surjective rule gives each state for as many words, so one case too many ends it
                GroupAutomaton x = rule(text);
                int a = w == 2 ? word / 3 : word / 9;
                int b = w == 2 ? word % 3 : word / 3 % 3;
                x.setCase(a, b, word % 3, (a + b + 1) % 3);
                rows(text + " but for " + word, x, false, false);
                x.undo();
                rows(text + " again", x, true, false);
            }
        }
        rows("4 words for each state", table("cyclic 2", 3, "00100111"), false, false);
        rows("3 words for each state", table("cyclic 3", 2, "012122010"), false, false);
        rows("a constant", rule("cyclic 2;width 2;word 1"), false, false);
        rows("a constant", rule("sym;width 3;word 5"), false, false);
        rows("the new rule", new GroupAutomaton(), true, true);
    }

    /** "Injective just if there are no two different rows that give the same row", which may differ everywhere. */
    private static void injectiveJustIfNoTwoRows() {
        rows("differing in all cells", rule("cyclic 2;width 2;word a*b"), true, false);
        rows("differing in every other cell", rule("cyclic 2;width 3;word a*c"), true, false);
        rows("differing in infinitely many of two in three", rule("cyclic 2;width 3;word a*b*c"), true, false);
        rows("in no cell", rule("cyclic 4;width 2;word a*b*b"), true, true);
        rows("in no cell", rule("cyclic 6;width 3;word a*a*a*b*c*c*c"), true, false);
        rows("in no cell", rule("cyclic 4;width 3;word a*a*b*c*c"), true, true);
        rows("turned by the state behind", rule("cyclic 3;width 2;word a;case 1 0=2;case 2 0=1"), true, true);
        rows("turned by the state itself", rule("cyclic 3;width 2;word a;case 1 2=2;case 2 2=1"), true, false);
        rows("turned by the state before", rule("cyclic 3;width 2;word b;case 0 1=2;case 0 2=1"), true, true);
        rows("turned by the state before", rule("cyclic 3;width 2;word b;case 2 1=2;case 2 2=1"), true, false);
        rows("turned by both", rule("cyclic 3;width 3;word b;case 0 1 0=2;case 0 2 0=1"), true, true);
        rows("turned by both", rule("cyclic 3;width 3;word b;case 1 1 1=2;case 1 2 1=1"), false, false);
    }

    private static void diamond(String group, int width, String states, int due) {
        GroupAutomaton x = Checks.table(group, width, states, "0");
        Checks.due("diamond of " + states, x.diamond(), due);
        Checks.due("diamond and surjective of " + states, x.isSurjective(), false);
        Checks.due("diamond and injective of " + states, x.isInjective(), false);
        Checks.none("diamond and inverse of " + states, () -> x.inverse(0));
    }

    /** "The number of new states from the first one to the last one"; "the shortest diamond": w is the least. */
    private static void lengthsOfDiamonds() {
        diamond("cyclic 3", 2, "012122010", 2);
        diamond("cyclic 3", 2, "201212010", 3);
        diamond("cyclic 4", 2, "1031021320312302", 4);
        diamond("klein", 2, "3210130220330211", 5);
        diamond("cyclic 4", 2, "2123123003012013", 6);
        diamond("cyclic 5", 2, "0124312340234303401240121", 5);
        diamond("cyclic 6", 2, "012345120540234501345012453123501234", 6);
        diamond("sym", 2, "012345123050234501345412453120501234", 7);
        diamond("cyclic 2", 3, "00100111", 3);
        diamond("cyclic 2", 3, "01000111", 4);
        diamond("cyclic 3", 3, "200011120211102220021102012", 5);
        diamond("cyclic 3", 3, "100211002022012201122100211", 6);
        diamond("cyclic 3", 3, "012210002201102120120021121", 7);
    }

    // ---- inverse rules

    private static void inverse(GroupAutomaton x, int width, int shift) {
        String what = "inverse rule of width " + width + " and shift " + shift;
        Checks.due(what + ": its width", x.inverse(0), width);
        Checks.due(what + ": its shift", x.inverse(1), shift);
        Checks.due(what + ": its words", x.inverse(2), (long) Math.pow(x.order(), width));
        Checks.due(what + ": injective", x.isInjective(), true);
    }

    private static GroupAutomaton table(String group, int width, String states) {
        return Checks.table(group, width, states, "0");
    }

    /** "Width v (1 to 5) and shift s (0 to v + w - 2)": the least and the greatest of them. */
    private static void widthsAndShifts() {
        inverse(rule("sym;width 2;word 3*a"), 1, 0);
        inverse(rule("sym;width 2;word b-"), 1, 1);
        inverse(rule("sym;width 3;word a*1"), 1, 0);
        inverse(rule("sym;width 3;word b"), 1, 1);
        inverse(rule("sym;width 3;word c"), 1, 2);
        inverse(table("klein", 2, "0123210301230123"), 2, 2);
        inverse(table("klein", 2, "0000122121123333"), 2, 0);
        inverse(table("cyclic 4", 2, "0022113310330122"), 3, 1);
        inverse(table("cyclic 4", 2, "0110011032322332"), 3, 2);
        inverse(table("cyclic 4", 2, "0123210331200123"), 3, 3);
        inverse(table("cyclic 5", 2, "0200011111442223343320344"), 4, 0);
        inverse(table("cyclic 5", 2, "0123431240032410123431204"), 4, 4);
        inverse(table("sym", 2, "335330413114222222101443040001554555"), 5, 0);
        inverse(table("sym", 2, "021345012435012345021345321045410325"), 5, 5);
        inverse(table("cyclic 3", 3, "021120021021120021021120021"), 2, 3);
        inverse(table("cyclic 3", 3, "001001001110110110222222222"), 3, 0);
        inverse(table("cyclic 3", 3, "021012021021012012021012012"), 3, 4);
        inverse(table("cyclic 3", 3, "202111020201112020202111020"), 4, 2);
        inverse(table("cyclic 3", 3, "012012021021021021021021021"), 4, 5);
        inverse(table("cyclic 3", 3, "202000121211000122212010121"), 5, 2);
        inverse(table("cyclic 3", 3, "000111222122112000020111202"), 5, 4);
    }

    /** "Widths v for which g to the power of v + w - 1 is greater than 50000 are not looked at." */
    private static void widthsNotLookedAt() {
        // 4 to the power of 7 is 16384, 5 to the power of 6 is 15625, 6 to the power of 6 is 46656
        inverse(table("klein", 3, "1110111011110010003100010030110122222222222222223303333333033333"), 5, 0);
        inverse(table("cyclic 4", 3, "0123032103210321012303210321032110233021302130210123032103210321"), 5, 6);
        inverse(table("cyclic 5", 3, "2022044442020043333311111000004444222224333331111120220444420200433333111110000"
                + "0444142222133333111422222444442000003333311111"), 4, 2);
        inverse(table("sym", 3, "0000001111112222223333335544444455550000001111112222223333335544444455550055001111112222"
                + "223333335544444400550055001111112222223333335544444400550055001111112222223333335544444400550055001111"
                + "11222222333333554444440055"), 4, 2);
        inverse(table("cyclic 6", 3, "05100011555122222233333344044450411505100011555122222233333344044450411505100011555"
                + "122222233333344044450411505100011555122222233333344044450411505100011555122222233333344044450411505100"
                + "0115551222222333333440444504115"), 4, 1);
        // 5 to the power of 7 is 78125, 6 to the power of 7 is 279936: these have inverse rules of width 5
        noInverse(table("cyclic 5", 3, "00000444440000044444000003333311111111111111133333222222222222424222222242411"
                + "111333333333333333111114444400000442420000044242"));
        noInverse(table("cyclic 5", 3, "01243012431024310234102430124301243102431023410243102431024301243012431024310"
                + "243102430124301243102430124301243102431024301243"));
        noInverse(table("sym", 3, "0000000000000000000000000000000000002222221111111111111111112222221111111111112222"
                + "22222222222222111111544544333333333333333333333333333333333333544544544544544544544544544544222222"
                + "455455455455455455455455455455455455"));
        noInverse(table("cyclic 6", 3, "00000011111133333322222255444444555500000011111133333322222255444444555500550"
                + "01111112222223333335544444400551155110000002222223333335544444411550055001111112222223333335544444"
                + "40055005500111111333333222222554444440055"));
        noInverse(table("sym", 3, "0523410523410123450523410523410123450123450123450123450123450123450123450523410523"
                + "41012345052341052341012345052341052341012345052341052341012345012345013245013245013245012345013245"
                + "012345012345012345012345012345012345"));
    }

    private static void noInverse(GroupAutomaton x) {
        Checks.due("injective", x.isInjective(), true);
        Checks.due("surjective", x.isSurjective(), true);
        for (int what = 0; what <= 2; what++) {
            int asked = what;
            Checks.none("no inverse rule by " + what, () -> x.inverse(asked));
        }
        Checks.argument("no inverse rule by 3", () -> x.inverse(3));
        Checks.none("no inverse rule of a word", () -> x.inverseOf(0));
        Checks.none("no inverse rule for back", () -> x.back(1));
        Checks.argument("no inverse rule for back", () -> x.back(101));
    }

    /** These have inverse rules of width 6, of which the powers of g are small enough. */
    private static void widthsBeyond5() {
        noInverse(table("cyclic 3", 3, "202000121122000211212010121"));
        noInverse(table("cyclic 3", 3, "020111202102112020000111222"));
        noInverse(table("klein", 3, "0123032103210321032101230123012313203021132030210321012301230123"));
        noInverse(table("cyclic 4", 3, "2323030223233032111111111111111130322220303222230200303302000300"));
    }

    /** Promise 22: "if what is out of range". */
    private static void whatsOfInverse() {
        GroupAutomaton some = rule("cyclic 5;width 3;word b*3");
        GroupAutomaton none = rule("cyclic 5;width 3;word b*c");
        for (int what : new int[] {-1, 0, 1, 2, 3, Integer.MIN_VALUE, Integer.MAX_VALUE}) {
            if (what >= 0 && what <= 2) {
                Checks.due("inverse(" + what + ")", some.inverse(what), what < 2 ? 1 : 5);
                Checks.none("inverse(" + what + ") of none", () -> none.inverse(what));
            } else {
                Checks.argument("inverse(" + what + ")", () -> some.inverse(what));
                Checks.argument("inverse(" + what + ") of none", () -> none.inverse(what));
            }
        }
    }

    /** Promise 23: "if word is negative, or has a digit that is no state, or more digits than the width". */
    private static void digitsOfInverseOf() {
        String[] rules = {"cyclic 2;width 2;word a", "cyclic 5;width 2;word b", "sym;width 3;word c",
            "cyclic 4;width 2;word a*b*b", "klein;width 2;word a", "cyclic 6;width 2;word a*a*a*b*b*b*b",
            "cyclic 4;width 3;word a*a*b*c*c"};
        for (String text : rules) {
            GroupAutomaton x = rule(text);
            int v = x.inverse(0);
            int ten = (int) Math.pow(10, v);
            for (int place = 1; place < ten; place *= 10) {
                int last = (x.order() - 1) * place;
                Checks.due(text + " inverseOf " + last, x.inverseOf(last) >= 0, true);
                for (int digit = x.order(); digit <= 9; digit++) {
                    int wrong = digit * place;
                    Checks.argument(text + " inverseOf " + wrong, () -> x.inverseOf(wrong));
                }
            }
            int greatest = (ten - 1) / 9 * (x.order() - 1);
            Checks.due(text + " inverseOf " + greatest, x.inverseOf(greatest) >= 0, true);
            Checks.due(text + " inverseOf 0", x.inverseOf(0) >= 0, true);
            for (int wrong : new int[] {-1, -ten, -10, -100, ten, ten + 1, 10 * ten, 1000000000, 1111111111,
                Integer.MIN_VALUE, Integer.MAX_VALUE}) {
                Checks.argument(text + " inverseOf " + wrong, () -> x.inverseOf(wrong));
            }
        }
        GroupAutomaton wide = table("sym", 2, "021345012435012345021345321045410325");
        for (int right : new int[] {0, 5, 50, 500, 5000, 50000, 55555}) {
            Checks.due("inverseOf " + right, wide.inverseOf(right) >= 0, true);
        }
        for (int wrong : new int[] {-1, 6, 60, 600, 6000, 60000, 55556, 65555, 100000, 500000, 1000000000}) {
            Checks.argument("inverseOf " + wrong, () -> wide.inverseOf(wrong));
        }
    }

    /** "The first state being the highest digit (leading zeros stand for states 0)", for all words that there are. */
    private static void inverseOfUndoesTheRule() {
        undoes("cyclic 4", 2, "0123210331200123");
        undoes("cyclic 4", 2, "0022113310330122");
        undoes("cyclic 3", 3, "021120021021120021021120021");
        undoes("cyclic 3", 2, "000211122");
        undoes("cyclic 3", 3, "000222111000111222000111222");
    }

    private static void undoes(String group, int w, String states) {
        GroupAutomaton x = table(group, w, states);
        int g = x.order();
        int v = x.inverse(0);
        int s = x.inverse(1);
        int words = (int) Math.pow(g, v + w - 1);
        int[] due = new int[(int) Math.pow(10, v)];
        for (int word = 0; word < words; word++) {
            int decimal = 0;
            for (int k = v - 1; k >= 0; k--) {
                int code = word / (int) Math.pow(g, k) % states.length();
                decimal = 10 * decimal + states.charAt(code) - '0';
            }
            due[decimal] = 1 + word / (int) Math.pow(g, v + w - 2 - s) % g;
        }
        for (int decimal = 0; decimal < due.length; decimal++) {
            if (due[decimal] != 0) {
                Checks.due(states + " inverseOf " + decimal, x.inverseOf(decimal), due[decimal] - 1);
            }
        }
    }

    /** Promise 23: NoSuchElementException is named before IllegalArgumentException. */
    private static void inverseOfIsRefusedFirst() {
        GroupAutomaton x = rule("klein;width 2;word a*b");
        for (int word : new int[] {0, 3, 4, -1, 1000000000, Integer.MIN_VALUE, Integer.MAX_VALUE}) {
            Checks.none("inverseOf " + word, () -> x.inverseOf(word));
        }
    }

    // ---- conserved sums

    private static String basis(GroupAutomaton x) {
        StringBuilder text = new StringBuilder();
        for (int row = 0; row < x.sums(); row++) {
            for (int state = 0; state < x.order(); state++) {
                long bottom = x.sum(row, state, 1);
                text.append(x.sum(row, state, 0)).append(bottom == 1 ? " " : "/" + bottom + " ");
            }
            text.append("| ");
        }
        return text.toString().trim();
    }

    /** The number of the cells is always conserved; at most all sums are. */
    private static void dimensions() {
        String[] groups = {"cyclic 2", "cyclic 3", "cyclic 4", "cyclic 5", "cyclic 6", "klein", "sym"};
        for (String group : groups) {
            GroupAutomaton least = rule(group + ";width 2;word 0");
            GroupAutomaton most = rule(group + ";width 3;word a");
            int g = least.order();
            Checks.due(group + " the least dimension", least.sums(), 1);
            Checks.due(group + " the greatest dimension", most.sums(), g);
            for (int row = 0; row < g; row++) {
                for (int state = 0; state < g; state++) {
                    Checks.due(group + " q", most.sum(row, state, 0), row == state ? 1 : 0);
                    Checks.due(group + " q, part 1", most.sum(row, state, 1), 1);
                    Checks.due(group + " q of the cells", least.sum(0, state, 0), 1);
                }
            }
            Checks.index(group + " no row more", () -> least.sum(1, 0, 0));
            Checks.index(group + " no row more", () -> most.sum(g, 0, 0));
        }
        Checks.due("the new rule", new GroupAutomaton().sums(), 2);
    }

    /** "For rings of each size": also for those of fewer cells than w, and for those of more than 16. */
    private static void ringsOfEachSize() {
        // a ring of one cell 1 would become 0
        Checks.same("rings of 1 cell", basis(rule("cyclic 2;width 2;word a;case 1 1=0")), "1 1 |");
        Checks.same("rings of 1 cell", basis(rule("cyclic 3;width 3;word b;case 2 2 2=1")), "1 0 0 | 0 1 1 |");
        // a ring of the cells 0 and 1 would become 1 and 1
        Checks.same("rings of 2 cells", basis(rule("cyclic 2;width 3;word b;case 1 0 1=1")), "1 1 |");
        Checks.same("rings of 2 cells", basis(rule("cyclic 2;width 2;word a;case 0 1=1")), "1 1 |");
        // only rings of 3 cells and more have a 0 between 1 and 2
        Checks.same("rings of 3 cells", basis(rule("cyclic 3;width 3;word b;case 1 0 2=1")), "1 1 0 | 0 0 1 |");
        Checks.same("rings of 4 cells", basis(rule("cyclic 4;width 3;word b;case 1 2 3=0;case 1 0 3=2")), "1 0 1 0 | 0 1 0 0 | 0 0 0 1 |");
        // what goes on stays
        Checks.same("traffic", basis(rule("cyclic 2;width 3;word b;case 0 1 0=0;case 1 0 0=1;case 1 0 1=1;case 1 1 0=0")),
                "1 0 | 0 1 |");
        Checks.same("traffic that loses one", basis(rule("cyclic 2;width 3;word b;case 0 1 0=0;case 1 0 0=1;case 1 1 0=0")),
                "1 1 |");
    }

    /** "The first number that is not 0 is 1, .. ascending states, .. all other rows have 0." */
    private static void reducedForm() {
        Checks.same("the last two alike", basis(rule("cyclic 3;width 2;word a-")), "1 0 0 | 0 1 1 |");
        Checks.same("the first two alike", basis(rule("cyclic 3;width 2;word a-*1")), "1 1 0 | 0 0 1 |");
        Checks.same("first and last alike", basis(rule("cyclic 3;width 2;word a-*2")), "1 0 1 | 0 1 0 |");
        Checks.same("two pairs", basis(rule("klein;width 2;word a*2")), "1 0 1 0 | 0 1 0 1 |");
        Checks.same("two pairs", basis(rule("klein;width 2;word a*3")), "1 0 0 1 | 0 1 1 0 |");
        Checks.same("three pairs", basis(rule("cyclic 6;width 2;word a*3")), "1 0 0 1 0 0 | 0 1 0 0 1 0 | 0 0 1 0 0 1 |");
        Checks.same("two triples", basis(rule("sym;width 2;word 3*a")), "1 0 0 1 1 0 | 0 1 1 0 0 1 |");
        Checks.same("all alike", basis(rule("cyclic 6;width 2;word a*5")), "1 1 1 1 1 1 |");
    }

    /** "In lowest terms, with a positive denominator; 0 is 0 / 1." */
    private static void fractions() {
        // a load in two halves: that of one state lies between those of the other two
        String[] texts = {"cyclic 3;width 3;word b;case 2 0 0=1;case 2 0 1=1;case 2 0 2=1;case 0 2 0=1;case 1 2 0=1;case 2 2 0=1",
            "cyclic 3;width 3;word b;case 1 2 2=0;case 1 2 0=0;case 1 2 1=0;case 2 1 2=0;case 0 1 2=0;case 1 1 2=0",
            "cyclic 3;width 3;word b;case 1 0 0=2;case 1 0 2=2;case 1 0 1=2;case 0 1 0=2;case 2 1 0=2;case 1 1 0=2"};
        String[] due = {"1 0 -1 | 0 1 2 |", "1 0 2 | 0 1 -1 |", "1 0 1/2 | 0 1 1/2 |"};
        for (int k = 0; k < texts.length; k++) {
            Checks.same("halves", basis(rule(texts[k])), due[k]);
        }
        GroupAutomaton x = Checks.automaton(texts[0] + ";ring 0 2;");
        value(x, 0, 0, 1);
        value(x, 1, 2, 1);
        x.set(0, 2);
        value(x, 0, -2, 1);
        x.set(0, 1);
        value(x, 0, -1, 1);
        value(x, 1, 3, 1);
        GroupAutomaton y = Checks.automaton(texts[2] + ";ring 2;");
        long[] due0 = {1, 1, 3, 2, 5, 3, 7, 4, 9, 5, 11, 6, 13, 7, 15, 8};
        for (int cells = 1; cells <= 16; cells++) {
            value(y, 0, due0[cells - 1], cells % 2 == 0 ? 1 : 2);
            if (cells < 16) {
                y.grow(2);
            }
        }
        GroupAutomaton z = Checks.automaton(texts[2] + ";ring 1;");
        value(z, 0, 0, 1);
        value(z, 1, 1, 1);
    }

    private static void value(GroupAutomaton x, int row, long top, long bottom) {
        String what = "value of row " + row + " for " + Checks.ringOf(x);
        Checks.due(what + ", part 0", x.value(row, 0), top);
        Checks.due(what + ", part 1", x.value(row, 1), bottom);
    }

    /** Promises 25 and 26: "if there is no such row or state", whatever the part is. */
    private static void rowsAndStatesOfSum() {
        String[] texts = {"cyclic 3;width 2;word a-", "cyclic 2;width 2;word 1", "sym;width 3;word b", "sym;width 2;word 3*a"};
        int[] dimensions = {2, 1, 6, 2};
        for (int k = 0; k < texts.length; k++) {
            GroupAutomaton x = rule(texts[k]);
            int rows = dimensions[k];
            int g = x.order();
            Checks.due(texts[k] + " sums", x.sums(), rows);
            for (int part = -1; part <= 2; part++) {
                int asked = part;
                for (int wrong : new int[] {-1, rows, rows + 1, Integer.MIN_VALUE, Integer.MAX_VALUE}) {
                    Checks.index(texts[k] + " sum of row " + wrong, () -> x.sum(wrong, 0, asked));
                    Checks.index(texts[k] + " value of row " + wrong, () -> x.value(wrong, asked));
                }
                for (int wrong : new int[] {-1, g, g + 1, Integer.MIN_VALUE, Integer.MAX_VALUE}) {
                    Checks.index(texts[k] + " sum of state " + wrong, () -> x.sum(0, wrong, asked));
                }
            }
            Checks.due(texts[k] + " the last row", x.sum(rows - 1, g - 1, 1), 1);
            Checks.due(texts[k] + " the first row", x.sum(0, 0, 0), 1);
            Checks.due(texts[k] + " the last row", x.value(rows - 1, 1), 1);
        }
    }

    /** Promises 25 and 26: "if part is out of range". */
    private static void partsOfSumAndValue() {
        GroupAutomaton x = rule("klein;width 2;word a*2");
        for (int row = 0; row < 2; row++) {
            int asked = row;
            for (int part : new int[] {-1, 2, 3, Integer.MIN_VALUE, Integer.MAX_VALUE}) {
                Checks.argument("sum by " + part, () -> x.sum(asked, 0, part));
                Checks.argument("sum by " + part, () -> x.sum(asked, 3, part));
                Checks.argument("value by " + part, () -> x.value(asked, part));
            }
            Checks.due("sum by 0", x.sum(row, row + 2, 0), 1);
            Checks.due("sum by 0", x.sum(row, 1 - row, 0), 0);
            Checks.due("sum by 1", x.sum(row, 1 - row, 1), 1);
        }
    }

    /** Promise 26: "of the basis for the ring", of 1 cell and of 16, and after it has changed. */
    private static void valuesOfTheRing() {
        GroupAutomaton x = Checks.automaton("sym;width 2;word b;ring 5;");
        for (int row = 0; row < 6; row++) {
            value(x, row, row == 5 ? 1 : 0, 1);
        }
        for (int cells = 2; cells <= 16; cells++) {
            x.grow(cells % 2 == 0 ? 5 : 4);
        }
        value(x, 5, 9, 1);
        value(x, 4, 7, 1);
        value(x, 0, 0, 1);
        x.set(15, 0);
        value(x, 5, 8, 1);
        value(x, 0, 1, 1);
        x.undo();
        value(x, 5, 9, 1);
        x.rotate(3);
        value(x, 5, 9, 1);
        x.step(1);
        value(x, 5, 9, 1);
        Checks.write(x, "sym;width 2;word 0;ring 1 2;");
        x.load();
        value(x, 0, 2, 1);
    }
}
