/** Promises 1 to 6: the new object, the text buffer, load and its errors. */
public final class TextTest {
    private TextTest() {
    }

    public static void main(String[] args) {
        newObject();
        buffer();
        bytesInOrder();
        goodTexts();
        loadReplacesAll();
        misplaced();
        outOfRange();
        secondCases();
        tooMany();
        errorsLeaveTheRest();
        Checks.end();
    }

    private static void newObject() {
        GroupAutomaton x = new GroupAutomaton();
        Checks.due("new order", x.order(), 2);
        Checks.due("new width", x.width(), 2);
        for (int word = 0; word < 4; word++) {
            Checks.due("new rule", x.rule(word / 2, word % 2, -7), word / 2);
        }
        Checks.same("new ring", Checks.ringOf(x), "0");
        Checks.due("new error code", x.errorCode(), 0);
        Checks.due("new error position", x.errorPosition(), GroupAutomaton.NONE);
        Checks.state("new undo", x::undo);
        Checks.none("new slot 0", () -> x.multiply(0));
        Checks.none("new slot 1", () -> x.multiply(1));
        Checks.index("new buffer", () -> x.truncate(1));
        Checks.due("new buffer", x.truncate(0), 0);
        Checks.due("the constant", GroupAutomaton.NONE, -1);
    }

    private static void buffer() {
        GroupAutomaton x = new GroupAutomaton();
        for (int count = 1; count <= 25; count++) {
            Checks.due("append", x.append(0, 0, 0, 0, 0), 20 * count);
        }
        Checks.state("append to 500", () -> x.append(0, 0, 0, 0, 0));
        Checks.index("truncate to 501", () -> x.truncate(501));
        Checks.due("truncate to the same", x.truncate(500), 500);
        Checks.due("truncate", x.truncate(481), 481);
        Checks.state("append to 481", () -> x.append(0, 0, 0, 0, 0));
        Checks.index("truncate to more", () -> x.truncate(482));
        Checks.due("truncate", x.truncate(480), 480);
        Checks.due("append to 480", x.append(0, 0, 0, 0, 0), 500);
        Checks.index("truncate to -1", () -> x.truncate(-1));
        Checks.index("truncate to the least", () -> x.truncate(Integer.MIN_VALUE));
        Checks.due("truncate to 0", x.truncate(0), 0);
        Checks.index("truncate to 1", () -> x.truncate(1));
    }

    private static void bytesInOrder() {
        GroupAutomaton x = new GroupAutomaton();
        // "klei" "n;wi" "dth " "2;wo" "rd a" and then ";rin" "g 3;"
        x.append(0x6b6c6569, 0x6e3b7769, 0x64746820, 0x323b776f, 0x72642061);
        x.append(0x3b72696e, 0x6720333b, 0x20202020, 0x20202020, 0x20202020);
        Checks.due("load of bytes", x.load(), 1);
        Checks.due("order of bytes", x.order(), 4);
        x.append(0x6b6c6569, 0x6e3b7769, 0x64746820, 0x323b776f, 0x726420e1);
        Checks.argument("a byte over 127", x::load);
        Checks.due("a byte over 127", x.errorPosition(), 19);
    }

    private static void goodTexts() {
        good("cyclic 2;width 2;word a;ring 0;", 2, "0");
        good("cyclic6;width3;word a*b-*5-*c;case 5 5 5=05;ring 5 0 5;", 6, "505");
        good(" \n cyclic\n06 ; width 02 ; word\na -\n* b ; case 0 0 = 1 ; ring\n0 1 2 ; \n ", 6, "012");
        good("klein;width 2;word 3;ring 3 2 1 0;", 4, "3210");
        good("sym;width 3;word a*b*c*a-*b-*c-*0*05;ring 0 1 2 3 4 5 0 1 2 3 4 5 0 1 2 3;", 6, "0123450123450123");
        good("cyclic 3;width 2;word b;case 0 0=1;case 0 1=1;case 0 2=1;case 1 0=1;case 1 1=1;case 1 2=1;case 2 0=1;"
                + "case 2 1=1;case 2 2=1;ring 2;", 3, "2");
        StringBuilder cases = new StringBuilder("cyclic 4;width 2;word b;");
        for (int word = 0; word < 12; word++) {
            cases.append("case ").append(word / 4).append(' ').append(word % 4).append("=3;");
        }
        good(cases + "ring 0;", 4, "0");
    }

    private static void good(String text, int order, String ring) {
        GroupAutomaton x = new GroupAutomaton();
        Checks.write(x, text);
        Checks.same(text, Checks.answer(x::load), Integer.toString(ring.length()));
        Checks.due(text + " code", x.errorCode(), 0);
        Checks.due(text + " position", x.errorPosition(), GroupAutomaton.NONE);
        Checks.due(text + " order", x.order(), order);
        Checks.same(text + " ring", Checks.ringOf(x), ring);
        Checks.index(text + " empties the buffer", () -> x.truncate(1));
    }

    private static void loadReplacesAll() {
        GroupAutomaton x = Checks.automaton("sym;width 3;word c;case 1 2 3=4;ring 1 2 3;");
        Checks.due("the case", x.rule(1, 2, 3), 4);
        x.keep(0);
        x.keep(1);
        x.set(0, 5);
        Checks.write(x, "sym;width 3;word b;ring 2 2 2;");
        Checks.due("load again", x.load(), 3);
        Checks.due("no case is left", x.rule(1, 2, 3), 2);
        Checks.state("nothing to undo", x::undo);
        Checks.none("slot 0 is empty", () -> x.multiply(0));
        Checks.none("slot 1 is empty", () -> x.multiply(1));
    }

    private static void bad(String text, int code, int position) {
        GroupAutomaton x = new GroupAutomaton();
        Checks.write(x, text);
        Checks.argument(text, x::load);
        Checks.due(text + " code", x.errorCode(), code);
        Checks.due(text + " position", x.errorPosition(), position);
        Checks.index(text + " empties the buffer", () -> x.truncate(1));
    }

    private static void misplaced() {
        bad("", 1, 0);
        bad("  \n", 1, 3);
        bad("Klein;", 1, 0);
        bad("\tklein;", 1, 0);
        bad("klein\r;", 1, 5);
        bad("kleine;", 1, 0);
        bad("klei;", 1, 0);
        bad("klein 4;", 1, 6);
        bad("cyclic;", 1, 6);
        bad("cyclic 123;", 1, 7);
        bad("cyclic 002;", 1, 7);
        bad("cyclic", 1, 6);
        bad("cyclic ", 1, 7);
        bad("klein;;", 1, 6);
        bad("klein;width;", 1, 11);
        bad("klein;width 2 word a;", 1, 14);
        bad("klein;width 2;ring 0;", 1, 14);
        bad("klein;width 2;word;", 1, 18);
        bad("klein;width 2;word a*;", 1, 21);
        bad("klein;width 2;word a b;", 1, 21);
        bad("klein;width 2;word a--;", 1, 21);
        bad("klein;width 2;word -a;", 1, 19);
        bad("klein;width 2;word c;", 1, 19);
        bad("klein;width 2;word d;", 1, 19);
        bad("klein;width 3;word d;", 1, 19);
        bad("klein;width 2;word ab;", 1, 19);
        bad("klein;width 2;word a*c;", 1, 21);
        bad("klein;width 2;worda;", 1, 14);
        bad("klein;width 2;word a;case 0=1;", 1, 27);
        bad("klein;width 2;word a;case 0 0 0=1;", 1, 30);
        bad("klein;width 3;word a;case 0 0=1;", 1, 29);
        bad("klein;width 2;word a;case 0 0 1;", 1, 30);
        bad("klein;width 2;word a;case 0 0=a;", 1, 30);
        bad("klein;width 2;word a;case 0 0=1 ring", 1, 32);
        bad("klein;width 2;word a;case 0 0=1;word", 1, 32);
        bad("klein;width 2;word a;ring;", 1, 25);
        bad("klein;width 2;word a;ring 0", 1, 27);
        bad("klein;width 2;word a;ring 0 \n", 1, 29);
        bad("klein;width 2;word a;ring 0;;", 1, 28);
        bad("klein;width 2;word a;ring 0; ring", 1, 29);
        bad("klein;width 2;word a;ring 0;case 0 0=1;", 1, 28);
        bad("klein;width 2;word a;ring 0*1;", 1, 27);
        bad("klein;width 2;word a;ring 000;", 1, 26);
        bad("klein;width 2;word a;ring 0 #;", 1, 28);
        bad("klein;width 2;word a;ring 0;\0", 1, 28);
    }

    private static void outOfRange() {
        bad("cyclic 1;", 2, 7);
        bad("cyclic 7;", 2, 7);
        bad("cyclic 0;", 2, 7);
        bad("cyclic 99 99", 2, 7);
        bad("klein;width 1;", 2, 12);
        bad("klein;width 4;", 2, 12);
        bad("klein;width 2;word 4;", 2, 19);
        bad("klein;width 2;word a*10;", 2, 21);
        bad("klein;width 2;word a;case 4 0=0;", 2, 26);
        bad("klein;width 2;word a;case 0 4=0;", 2, 28);
        bad("klein;width 2;word a;case 0 0=4;", 2, 30);
        bad("klein;width 2;word a;ring 4;", 2, 26);
        bad("cyclic 3;width 2;word a;ring 0 1 2 3;", 2, 35);
        bad("cyclic 3;width 2;word a;ring 3 222;", 2, 29);
    }

    private static void secondCases() {
        bad("klein;width 2;word a;case 0 1=0;case 0 1=0;", 3, 39);
        bad("klein;width 2;word a;case 0 1=0;case 1 0=0;case 00 01=0;", 3, 51);
        bad("klein;width 3;word a;case 0 1 2=0;case 0 1 2=1;", 3, 43);
        bad("klein;width 2;word a;case 0 0=0;case 0 4=0;", 2, 39);
        // the case of an earlier text is no case of this one
        GroupAutomaton x = Checks.automaton("klein;width 2;word a;case 0 1=0;ring 0;");
        Checks.write(x, "klein;width 2;word a;case 0 1=1;ring 0;");
        Checks.due("cases of another text", x.load(), 1);
        Checks.write(x, "klein;width 2;word a;case 2 1=1;rong 0;");
        Checks.argument("rong", x::load);
        Checks.write(x, "klein;width 2;word a;case 2 1=1;ring 0;");
        Checks.due("cases of a text with an error", x.load(), 1);
    }

    private static void tooMany() {
        String eight = "sym;width 2;word a*b*a*b*a*b*a*b";
        bad(eight + "*a;", 4, eight.length() + 1);
        bad(eight + "* 5-;", 4, eight.length() + 2);
        bad(eight + "*6;", 2, eight.length() + 1);
        bad(eight + "*c;", 1, eight.length() + 1);
        bad(eight + "*;", 1, eight.length() + 1);
        bad(eight + "a;", 1, eight.length() - 1);
        StringBuilder twelve = new StringBuilder("sym;width 2;word a;");
        for (int word = 0; word < 12; word++) {
            twelve.append("case ").append(word / 6).append(' ').append(word % 6).append("=3;");
        }
        bad(twelve + " case 5 5=1;ring 0;", 4, twelve.length() + 1);
        bad(twelve + "case", 4, twelve.length());
        bad(twelve + "cases", 1, twelve.length());
        String sixteen = "sym;width 2;word a;ring 0 1 2 3 4 5 0 1 2 3 4 5 0 1 2 3";
        bad(sixteen + " 4;", 4, sixteen.length() + 1);
        bad(sixteen + " 6;", 2, sixteen.length() + 1);
        bad(sixteen + " a;", 1, sixteen.length() + 1);
        bad(sixteen, 1, sixteen.length());
    }

    private static void errorsLeaveTheRest() {
        GroupAutomaton x = Checks.automaton("sym;width 3;word c*a;case 1 2 3=4;ring 1 2 3;");
        x.keep(0);
        x.set(0, 5);
        Checks.write(x, "cyclic 2;width 2;word a;case 0 0=1;ring 1 1 1 2;");
        Checks.argument("an error at the end", x::load);
        Checks.due("code", x.errorCode(), 2);
        Checks.due("position", x.errorPosition(), 46);
        Checks.due("order", x.order(), 6);
        Checks.due("width", x.width(), 3);
        Checks.due("case", x.rule(1, 2, 3), 4);
        Checks.due("rule", x.rule(1, 2, 2), x.product(2, 1));
        Checks.same("ring", Checks.ringOf(x), "523");
        Checks.due("undo", x.undo(), 0);
        Checks.same("ring", Checks.ringOf(x), "123");
        Checks.due("slot 0 is kept", x.multiply(0), x.total());
        Checks.due("code stays", x.errorCode(), 2);
        Checks.write(x, "cyclic 2;width 2;word a;ring 1;");
        Checks.due("a good text", x.load(), 1);
        Checks.due("code", x.errorCode(), 0);
        Checks.due("position", x.errorPosition(), -1);
    }
}
