import java.util.EnumSet;

/**
 * The bounds in "The text" and in promises 1 to 6: of each sentence that names one, the last value that is right and
 * the first one beyond it.
 */
public final class TextBoundsTest {
    private static final String[] GROUPS = {"cyclic 2", "cyclic 3", "cyclic 4", "cyclic 5", "cyclic 6", "klein", "sym"};
    private static final int[] ORDERS = {2, 3, 4, 5, 6, 4, 6};
    private static final int BLANKS = 0x20202020;

    private TextBoundsTest() {
    }

    public static void main(String[] args) {
        newIsAsLoaded();
        bufferHolds500();
        eachLengthForAppend();
        bytesInTheirOrder();
        bytesOfAllKinds();
        truncateBounds();
        truncateForgets();
        bytesBehindTheEndAreGone();
        textsOf500();
        bufferIsEmptyAfterLoad();
        codeOfTheLatestLoad();
        blanks();
        lettersAndDigits();
        symbols();
        tokensAreLong();
        runsOfDigits();
        groups();
        widths();
        lettersOfTerms();
        inverseSigns();
        statesBelowOrder();
        numbersOfACase();
        termsUpTo8();
        casesUpTo12();
        ringUpTo16();
        theEnd();
        firstErrorFromTheLeft();
        lowestCode();
        secondCases();
        manyCalls();
        Checks.end();
    }

    private static void good(String text, String ring) {
        GroupAutomaton x = new GroupAutomaton();
        Checks.write(x, text);
        Checks.same(text, Checks.answer(x::load), Integer.toString(ring.length()));
        Checks.due(text + " code", x.errorCode(), 0);
        Checks.due(text + " position", x.errorPosition(), -1);
        Checks.same(text + " ring", Checks.ringOf(x), ring);
    }

    private static void bad(String text, int code, int position) {
        GroupAutomaton x = new GroupAutomaton();
        Checks.write(x, text);
        Checks.argument(text, x::load);
        Checks.due(text + " code", x.errorCode(), code);
        Checks.due(text + " position", x.errorPosition(), position);
    }

    // ---- the object and its buffer

    /** Promise 1: "an automaton for the text .., with an empty text buffer". */
    private static void newIsAsLoaded() {
        Twins.same("a new object", () -> Checks.automaton("cyclic 2;width 2;word a;ring 0;"), x -> 0,
                GroupAutomaton::new, x -> 0, EnumSet.allOf(Twins.View.class));
        Checks.due("the first append", new GroupAutomaton().append(0, 0, 0, 0, 0), 20);
    }

    /** Promise 2: "if the length would exceed 500". */
    private static void bufferHolds500() {
        GroupAutomaton x = new GroupAutomaton();
        for (int length = 20; length <= 500; length += 20) {
            Checks.due("append", x.append(BLANKS, BLANKS, BLANKS, BLANKS, BLANKS), length);
        }
        Checks.state("append to 500", () -> x.append(BLANKS, BLANKS, BLANKS, BLANKS, BLANKS));
        Checks.due("the length stays", x.truncate(500), 500);
        Checks.argument("load of 500 blanks", x::load);
        Checks.due("the end of 500 bytes", x.errorPosition(), 500);
    }

    private static void eachLengthForAppend() {
        for (int length = 461; length <= 500; length++) {
            GroupAutomaton x = new GroupAutomaton();
            for (int count = 0; count < 25; count++) {
                x.append(BLANKS, BLANKS, BLANKS, BLANKS, BLANKS);
            }
            x.truncate(length);
            String due = length <= 480 ? Integer.toString(length + 20) : "IllegalStateException";
            Checks.same("append to " + length, Checks.answer(() -> x.append(0, 0, 0, 0, 0)), due);
        }
    }

    /** "The four bytes of each argument in order, the most significant byte first." */
    private static void bytesInTheirOrder() {
        for (int place = 0; place < 20; place++) {
            int[] four = {BLANKS, BLANKS, BLANKS, BLANKS, BLANKS};
            int shift = 24 - place % 4 * 8;
            four[place / 4] = BLANKS & ~(255 << shift) | '#' << shift;
            GroupAutomaton x = new GroupAutomaton();
            x.append(four[0], four[1], four[2], four[3], four[4]);
            Checks.argument("a # at " + place, x::load);
            Checks.due("a # at " + place, x.errorPosition(), place);
        }
    }

    /** Of all bytes only 10 and 32 may stand behind the last token; those over 127 have the sign bit. */
    private static void bytesOfAllKinds() {
        String text = "klein;width 2;word a;ring 3;";
        for (int last = 0; last < 256; last++) {
            if (last == 10 || last == 32) {
                good(text + (char) last, "3");
            } else {
                bad(text + (char) last, 1, text.length());
            }
        }
    }

    /** Promise 3: "if length is negative or greater than the current length". */
    private static void truncateBounds() {
        GroupAutomaton x = new GroupAutomaton();
        Checks.due("truncate the empty buffer", x.truncate(0), 0);
        Checks.index("truncate the empty buffer to 1", () -> x.truncate(1));
        Checks.index("truncate the empty buffer to -1", () -> x.truncate(-1));
        x.append(0, 0, 0, 0, 0);
        Checks.index("truncate 20 to 21", () -> x.truncate(21));
        Checks.index("truncate 20 to -1", () -> x.truncate(-1));
        Checks.due("truncate 20 to 20", x.truncate(20), 20);
        for (int length = 19; length >= 0; length--) {
            int beyond = length + 1;
            Checks.due("truncate", x.truncate(length), length);
            Checks.index("truncate to one more", () -> x.truncate(beyond));
            Checks.due("truncate to the same", x.truncate(length), length);
        }
        Checks.index("truncate to the greatest", () -> x.truncate(Integer.MAX_VALUE));
        Checks.index("truncate to the least", () -> x.truncate(Integer.MIN_VALUE));
    }

    private static void truncateForgets() {
        GroupAutomaton x = new GroupAutomaton();
        // "klei" "n###" "####" "####" "####", cut behind the n
        x.append(0x6b6c6569, 0x6e232323, 0x23232323, 0x23232323, 0x23232323);
        x.truncate(5);
        // ";wid" "th 2" ";wor" "d b;" "ring" and " 2;" behind them
        Checks.due("append behind the cut", x.append(0x3b776964, 0x74682032, 0x3b776f72, 0x6420623b, 0x72696e67), 25);
        Checks.due("append behind that", x.append(0x20323b20, BLANKS, BLANKS, BLANKS, BLANKS), 45);
        Checks.due("load", x.load(), 1);
        Checks.due("cell", x.cell(0), 2);
    }

    /** Promise 3: cut anywhere, even within a token, the text is as if no more had been appended. */
    private static void bytesBehindTheEndAreGone() {
        String text = "cyclic 6;width 3;word a-*b*c;case 01 02 03=04;ring 05 01;";
        for (int length = 0; length < text.length(); length++) {
            GroupAutomaton x = new GroupAutomaton();
            Checks.write(x, text);
            x.truncate(length);
            GroupAutomaton loadedBefore = Checks.automaton(text);
            Checks.write(loadedBefore, text.substring(0, length));
            GroupAutomaton due = new GroupAutomaton();
            Checks.write(due, text.substring(0, length));
            Checks.argument("cut at " + length, due::load);
            for (GroupAutomaton cut : new GroupAutomaton[] {x, loadedBefore}) {
                Checks.argument("cut at " + length, cut::load);
                latest(cut, due.errorCode(), due.errorPosition());
            }
        }
        for (String ring : new String[] {"12", "1 ", "1;"}) {
            GroupAutomaton x = new GroupAutomaton();
            Checks.write(x, "klein;width 2;word a;ring " + ring);
            x.truncate(27);
            Checks.argument("cut behind the 1", x::load);
            latest(x, 1, 27);
        }
    }

    /** "A text buffer of at most 500 bytes": all of them count. */
    private static void textsOf500() {
        String start = "sym;width 3;word a;ring 5";
        String blanks = " ".repeat(499 - start.length());
        good(start + blanks + ";", "5");
        bad(start + blanks + "#", 1, 499);
        bad(start + blanks + " ", 1, 500);
        bad(start + ";" + blanks.substring(1) + ";", 1, 499);
        bad(start + blanks.substring(2) + "123", 1, 497);
    }

    /** Promise 4: "The buffer is empty afterwards in every case." */
    private static void bufferIsEmptyAfterLoad() {
        for (String text : new String[] {"klein;width 2;word a;ring 0;", "klein;width 2;word a;ring 4;", "", "#"}) {
            GroupAutomaton x = new GroupAutomaton();
            Checks.write(x, text);
            Checks.answer(x::load);
            Checks.index("after load", () -> x.truncate(1));
            Checks.argument("load of nothing", x::load);
            Checks.due("the code of nothing", x.errorCode(), 1);
            Checks.due("the position of nothing", x.errorPosition(), 0);
            Checks.due("append after load", x.append(0, 0, 0, 0, 0), 20);
        }
    }

    /** Promises 5 and 6: "of the latest load()", "0 if there was no error or no call yet". */
    private static void codeOfTheLatestLoad() {
        GroupAutomaton x = new GroupAutomaton();
        latest(x, 0, -1);
        Checks.write(x, "cyclic 7;");
        latest(x, 0, -1);
        Checks.argument("cyclic 7", x::load);
        latest(x, 2, 7);
        Checks.write(x, "sym;word");
        latest(x, 2, 7);
        Checks.argument("sym;word", x::load);
        latest(x, 1, 4);
        Checks.write(x, "cyclic 3;width 2;word a;case 2 2=0;ring 1;");
        latest(x, 1, 4);
        Checks.due("a good text", x.load(), 1);
        latest(x, 0, -1);
        Checks.index("a refused call", () -> x.cell(1));
        latest(x, 0, -1);
    }

    private static void latest(GroupAutomaton x, int code, int position) {
        Checks.due("code", x.errorCode(), code);
        Checks.due("position", x.errorPosition(), position);
    }

    // ---- tokens

    /** "Blanks (bytes 10 and 32) may stand before, between and behind tokens." */
    private static void blanks() {
        String[] tokens = {"cyclic", "5", ";", "width", "3", ";", "word", "a", "-", "*", "4", "-", ";", "case", "0", "1",
            "2", "=", "3", ";", "ring", "4", "0", ";"};
        for (String blank : new String[] {" ", "\n", "\n\n", " \n ", "     "}) {
            good(blank + String.join(blank, tokens) + blank, "40");
        }
        good("cyclic5;width3;word a-*4-;case0 1 2=3;ring4 0;", "40");
        for (char other : new char[] {0, 9, 11, 12, 13, 31, 33, 127, 128 + 10, 128 + 32}) {
            bad(other + "cyclic 5;", 1, 0);
            bad("cyclic" + other + "5;", 1, 6);
            bad("cyclic 5" + other + ";", 1, 8);
            bad("cyclic 5;width 3;word a;ring 4" + other + "0;", 1, 30);
        }
    }

    /** "Words (maximal runs of letters a to z), numbers (maximal runs of 1 or 2 digits)." */
    private static void lettersAndDigits() {
        bad("kleina;", 1, 0);
        bad("kleinz;", 1, 0);
        bad("aklein;", 1, 0);
        bad("zklein;", 1, 0);
        bad("zlein;", 1, 0);
        bad("kleiz;", 1, 0);
        bad("klei;", 1, 0);
        bad("zym;", 1, 0);
        bad("zyclic 2;", 1, 0);
        bad("klein;zidth 2;", 1, 6);
        bad("klein;width 2;zord a;", 1, 14);
        bad("klein;width 2;word a;zase 0 0=1;", 1, 21);
        bad("klein;width 2;word a;zing 0;", 1, 21);
        bad("klein`;", 1, 5);
        bad("klein{;", 1, 5);
        bad("`klein;", 1, 0);
        bad("{klein;", 1, 0);
        bad("kleinA;", 1, 5);
        bad("kleinZ;", 1, 5);
        bad("KLEIN;", 1, 0);
        bad("klein;width 0;", 2, 12);
        bad("klein;width 9;", 2, 12);
        bad("klein;width /;", 1, 12);
        bad("klein;width :;", 1, 12);
        bad("klein;width 2/;", 1, 13);
        bad("klein;width 2:;", 1, 13);
        bad("klein;width 20;", 2, 12);
        bad("klein;width 29;", 2, 12);
    }

    /** "The one-byte symbols ; * - and =": those beside them start no token. */
    private static void symbols() {
        String[] texts = {"klein;", "klein;width 2;word a*", "klein;width 2;word a-", "klein;width 2;word a;case 0 0="};
        String[] behind = {"width 2;word a;ring 1;", "b;ring 1;", ";ring 1;", "2;ring 1;"};
        for (int k = 0; k < texts.length; k++) {
            int last = texts[k].length() - 1;
            char symbol = texts[k].charAt(last);
            good(texts[k] + behind[k], "1");
            for (int step = -1; step <= 1; step += 2) {
                bad(texts[k].substring(0, last) + (char) (symbol + step) + behind[k], 1, last);
            }
        }
        bad("klein;width 2;word a,b;", 1, 20);
        bad("klein;width 2;word a b;", 1, 21);
        bad("klein=width 2;", 1, 5);
        bad("klein;width 2;word a;case 0 0;1;", 1, 29);
        bad("klein;width 2;word a;case 0 0-1;", 1, 29);
        bad("klein;width 2;word a;case 0 0==1;", 1, 30);
        bad("klein;width 2;word a;case 0 0=1*", 1, 31);
        bad("klein;width 2;word a;case 0 0=1-;", 1, 31);
        bad("klein;width 2;word a;ring 0-;", 1, 27);
        bad("klein;width 2;word a;ring 0=", 1, 27);
    }

    /** "Tokens are as long as possible." */
    private static void tokensAreLong() {
        bad("symwidth", 1, 0);
        bad("sym;width 2;word ab;", 1, 17);
        bad("sym;width 2;word aa;", 1, 17);
        bad("sym;width 2;worda;", 1, 12);
        bad("sym;width 2;word a;casea", 1, 19);
        bad("sym;width 2;word a;case 01=1;", 1, 26);
        bad("sym;width 2;word a;ring 12;", 2, 24);
        good("sym;width 2;word a;ring 1 2;", "12");
        good("sym;width 2;word a;ring 01 02;", "12");
        bad("sym;width 3;word a;case 0 11=1;", 2, 26);
        bad("cyclic 2 2;", 1, 9);
        bad("cyclic 22;", 2, 7);
        bad("cyc lic 2;", 1, 0);
    }

    /** "Maximal runs of 1 or 2 digits"; "a run of more than 2 digits" has code 1, whatever its value. */
    private static void runsOfDigits() {
        good("cyclic 2;width 2;word a;ring 1;", "1");
        good("cyclic 02;width 02;word 01*00;case 00 01=00;ring 01 00;", "10");
        bad("cyclic 002;", 1, 7);
        bad("cyclic 0002;", 1, 7);
        bad("cyclic 2;width 002;", 1, 15);
        bad("cyclic 2;width 2;word 001;", 1, 22);
        bad("cyclic 2;width 2;word a;case 000 0=0;", 1, 29);
        bad("cyclic 2;width 2;word a;case 0 000=0;", 1, 31);
        bad("cyclic 2;width 2;word a;case 0 0=000;", 1, 33);
        bad("cyclic 2;width 2;word a;ring 000;", 1, 29);
        bad("cyclic 2;width 2;word a;ring 0 001;", 1, 31);
        bad("cyclic 2;width 2;word a;ring 99;", 2, 29);
        bad("cyclic 2;width 2;word a;ring 100;", 1, 29);
        bad("cyclic 99;", 2, 7);
        bad("cyclic 100;", 1, 7);
    }

    // ---- what stands in a text

    /** "Cyclic n: g is n (2 to 6)"; klein and sym have no number. */
    private static void groups() {
        for (int n = 0; n < 100; n++) {
            if (n >= 2 && n <= 6) {
                Checks.due("cyclic " + n, Checks.automaton("cyclic " + n + ";width 2;word a;ring 0;").order(), n);
            } else {
                bad("cyclic " + n + ";width 2;word a;ring 0;", 2, 7);
            }
        }
        bad("cyclic;", 1, 6);
        bad("klein 4;", 1, 6);
        bad("sym 6;", 1, 4);
        bad("symm;", 1, 0);
        bad("sy;", 1, 0);
        bad("cyclic", 1, 6);
    }

    /** "The width w of a rule is 2 or 3." */
    private static void widths() {
        for (int w = 0; w < 100; w++) {
            String text = "klein;width " + w + ";word a;ring 0;";
            if (w == 2 || w == 3) {
                Checks.due(text, Checks.automaton(text).width(), w);
            } else {
                bad(text, 2, 12);
            }
        }
        bad("klein;width;", 1, 11);
        bad("klein;width a;", 1, 12);
        bad("klein;width 2 2;", 1, 14);
        bad("klein;2;", 1, 6);
    }

    /** "c can stand in a term only if w is 3." */
    private static void lettersOfTerms() {
        for (char letter = 'a'; letter <= 'z'; letter++) {
            for (int w = 2; w <= 3; w++) {
                String text = "klein;width " + w + ";word 1*" + letter + ";ring 0 1 2;";
                if (letter < 'a' + w) {
                    good(text, "012");
                } else {
                    bad(text, 1, 21);
                }
            }
        }
        bad("klein;width 2;word c;ring 0;", 1, 19);
        bad("klein;width 3;word d;ring 0;", 1, 19);
        bad("klein;width 3;word `;ring 0;", 1, 19);
        bad("klein;width 3;word cc;ring 0;", 1, 19);
        bad("klein;width 2;word c-;ring 0;", 1, 19);
        bad("klein;width 3;word C;ring 0;", 1, 19);
    }

    /** "( .. ) [ - ]": one minus sign at most, and it stands behind. */
    private static void inverseSigns() {
        good("klein;width 2;word a-;ring 0;", "0");
        good("klein;width 2;word 3-*b-;ring 0;", "0");
        bad("klein;width 2;word a--;", 1, 21);
        bad("klein;width 2;word -a;", 1, 19);
        bad("klein;width 2;word -;", 1, 19);
        bad("klein;width 2;word a-b;", 1, 21);
        bad("klein;width 2;word a*-b;", 1, 21);
        bad("klein;width 2;word 3 3;", 1, 21);
    }

    /** "A number that stands for a state is less than g." */
    private static void statesBelowOrder() {
        String[] before = {";width 2;word ", ";width 3;word b*", ";width 2;word a;case ", ";width 2;word a;case 0 ",
            ";width 3;word a;case 1 ", ";width 3;word a;case 0 1 ", ";width 2;word a;case 0 1=", ";width 2;word a;ring ",
            ";width 3;word a;ring 0 1 "};
        String[] behind = {";ring 1;", "-;ring 1;", " 0=0;ring 1;", "=1;ring 1;", " 1=1;ring 1;", "=0;ring 1;",
            ";ring 1;", ";", ";"};
        for (int k = 0; k < GROUPS.length; k++) {
            for (int place = 0; place < before.length; place++) {
                String text = GROUPS[k] + before[place];
                for (int number = 0; number < 100; number++) {
                    if (number < ORDERS[k]) {
                        String ring = place < 7 ? "1" : (place == 7 ? "" : "01") + number;
                        good(text + number + behind[place], ring);
                    } else {
                        bad(text + number + behind[place], 2, text.length());
                    }
                }
            }
        }
    }

    /** "The word of a case has w numbers." */
    private static void numbersOfACase() {
        for (int w = 2; w <= 3; w++) {
            String text = "klein;width " + w + ";word a;case";
            for (int numbers = 0; numbers <= 4; numbers++) {
                int position = numbers < w ? text.length() + 2 * numbers : text.length() + 2 * w + 1;
                if (numbers == w) {
                    good(text + " 1".repeat(numbers) + "=3;ring 0;", "0");
                } else {
                    bad(text + " 1".repeat(numbers) + "=3;ring 0;", 1, position);
                }
            }
            bad(text + " 1".repeat(w) + "=;", 1, text.length() + 2 * w + 1);
            bad(text + " 1".repeat(w) + ";", 1, text.length() + 2 * w);
            bad(text + " 1".repeat(w - 1) + " a=1;", 1, text.length() + 2 * w - 1);
            bad(text + " 1".repeat(w) + "=1 1;", 1, text.length() + 2 * w + 3);
            bad(text + " 1".repeat(w) + "=a;", 1, text.length() + 2 * w + 1);
            bad(text + " 1".repeat(w) + "=1ring", 1, text.length() + 2 * w + 2);
        }
    }

    /** "A rule has at most 8 terms"; a word has at least one. */
    private static void termsUpTo8() {
        String start = "cyclic 6;width 3;word ";
        bad(start + ";ring 0;", 1, 22);
        for (int terms = 1; terms <= 10; terms++) {
            String text = start + "*1".repeat(terms).substring(1) + ";ring 0;";
            if (terms <= 8) {
                good(text, "0");
                Checks.due(text, Checks.automaton(text).rule(0, 0, 0), terms % 6);
            } else {
                bad(text, 4, start.length() + 16);
            }
        }
        bad(start + "1*1*1*1*1*1*1*1*;", 1, start.length() + 16);
        bad(start + "1*1*1*1*1*1*1*1*", 1, start.length() + 16);
        good(start + "a-*b-*c-*a-*b-*c-*a-*b-;ring 5;", "5");
        bad(start + "a-*b-*c-*a-*b-*c-*a-*b-*\n c-;ring 5;", 4, start.length() + 26);
        // the terms of the texts before do not count
        GroupAutomaton x = Checks.automaton(start + "1*1*1*1*1*1*1*1;ring 0;");
        Checks.write(x, start + "1*1*1*1*1*1*1*1;ring 0;");
        Checks.due("8 terms again", x.load(), 1);
    }

    private static String cases(int count) {
        StringBuilder text = new StringBuilder("cyclic 4;width 2;word b;");
        for (int word = 0; word < count; word++) {
            text.append("case ").append(word / 4).append(' ').append(word % 4).append("=3;");
        }
        return text.toString();
    }

    /** "At most 12 cases"; a rule may have none. */
    private static void casesUpTo12() {
        for (int count = 0; count <= 14; count++) {
            String text = cases(count) + "ring 2;";
            if (count <= 12) {
                good(text, "2");
                GroupAutomaton x = Checks.automaton(text);
                for (int word = 0; word < 16; word++) {
                    Checks.due(text, x.rule(word / 4, word % 4, 0), word < count ? 3 : word % 4);
                }
            } else {
                bad(text, 4, cases(12).length());
            }
        }
        bad(cases(12) + "\n\n case", 4, cases(12).length() + 3);
        bad(cases(12) + "cas", 1, cases(12).length());
        bad(cases(12) + ";", 1, cases(12).length());
        bad(cases(12), 1, cases(12).length());
        GroupAutomaton x = Checks.automaton(cases(12) + "ring 0;");
        Checks.write(x, cases(12) + "ring 0;");
        Checks.due("12 cases again", x.load(), 1);
    }

    /** "A ring has 1 to 16 states." */
    private static void ringUpTo16() {
        String start = "klein;width 2;word b;ring";
        bad(start + ";", 1, 25);
        bad(start, 1, 25);
        bad(start + " ;", 1, 26);
        for (int cells = 1; cells <= 18; cells++) {
            String text = start + " 3".repeat(cells) + ";";
            if (cells <= 16) {
                good(text, "3".repeat(cells));
            } else {
                bad(text, 4, start.length() + 33);
            }
        }
        bad(start + " 3".repeat(17), 4, start.length() + 33);
        bad(start + " 3".repeat(16), 1, start.length() + 32);
        bad(start + " 3".repeat(16) + ";;", 1, start.length() + 33);
        bad(start + " 3".repeat(16) + "\n\n 0;", 4, start.length() + 35);
    }

    // ---- errors

    /** "The end has the text length as its position": with the blanks before it. */
    private static void theEnd() {
        String text = "sym;width 3;word a-*2;case 0 1 2=3;ring 4 5;";
        for (int length = 0; length < text.length(); length++) {
            String cut = text.substring(0, length);
            // cut within a word, the word is another one; else the end stands where something is missing
            char last = length == 0 ? ' ' : cut.charAt(length - 1);
            char next = text.charAt(length);
            boolean isWhole = !(Character.isLetter(last) && Character.isLetter(next));
            int start = length;
            while (!isWhole && start > 0 && Character.isLetter(cut.charAt(start - 1))) {
                start--;
            }
            bad(cut, 1, isWhole ? length : start);
            if (isWhole) {
                bad(cut + " \n ", 1, length + 3);
            }
        }
        bad("", 1, 0);
        bad(" ", 1, 1);
        bad("\n", 1, 1);
    }

    /** "The first error from the left is reported", whatever the codes of those behind it. */
    private static void firstErrorFromTheLeft() {
        bad("cyclic 9;width 9;word x;", 2, 7);
        bad("klein;width 9;word x;", 2, 12);
        bad("klein;width 2;word 4*c;", 2, 19);
        bad("klein;width 2;word c*4;", 1, 19);
        bad("klein;width 2;word a;case 4 9=9;", 2, 26);
        bad("klein;width 2;word a;case 0 0=1;case 0 0=9 #", 3, 39);
        bad("klein;width 2;word a;case 0 0=1;case 4 0=1;", 2, 37);
        bad(cases(12) + "case 0 0=9;", 4, cases(12).length());
        bad("klein;width 2;word 1*1*1*1*1*1*1*1*1*9;", 4, 35);
        bad("klein;width 2;word a;ring 0 0 0 0 0 0 0 0 0 0 0 0 0 0 0 4 0;", 2, 56);
        bad("klein;width 2;word a;ring 0 0 0 0 0 0 0 0 0 0 0 0 0 0 0 0 0 4;", 4, 58);
        bad("klein;width 2;word a;ring 0 # 4;", 1, 28);
        bad("klein;width 2;word a;ring 4 #;", 2, 26);
    }

    /** "Of several at the same position, the one with the lowest code." */
    private static void lowestCode() {
        String eight = "cyclic 3;width 2;word 1*1*1*1*1*1*1*1*";
        bad(eight + "2;ring 0;", 4, eight.length());
        bad(eight + "3;ring 0;", 2, eight.length());
        bad(eight + "000;ring 0;", 1, eight.length());
        bad(eight + "a;ring 0;", 4, eight.length());
        bad(eight + "b-;ring 0;", 4, eight.length());
        bad(eight + "c;ring 0;", 1, eight.length());
        bad(eight + "#", 1, eight.length());
        String wide = "cyclic 3;width 3;word 1*1*1*1*1*1*1*1*";
        bad(wide + "c;ring 0;", 4, wide.length());
        String twice = "cyclic 3;width 2;word a;case 0 2=1;case 0 ";
        bad(twice + "2=0;ring 0;", 3, twice.length());
        bad(twice + "02=0;ring 0;", 3, twice.length());
        bad(twice + "3=0;ring 0;", 2, twice.length());
        bad(twice + "002=0;ring 0;", 1, twice.length());
        String sixteen = "cyclic 3;width 2;word a;ring" + " 0".repeat(16) + " ";
        bad(sixteen + "2;", 4, sixteen.length());
        bad(sixteen + "3;", 2, sixteen.length());
        bad(sixteen + "000;", 1, sixteen.length());
        bad(sixteen + "a;", 1, sixteen.length());
        bad(sixteen + "*", 1, sixteen.length());
        good(sixteen + ";", "0".repeat(16));
    }

    /** "The last number of the word of a case for a word that has a case already." */
    private static void secondCases() {
        String start = "cyclic 3;width 2;word a;case 1 2=0;";
        good(start + "case 2 1=0;case 1 1=0;case 1 0=0;case 0 2=0;case 2 2=0;ring 0;", "0");
        bad(start + "case 1 2=0;", 3, start.length() + 7);
        bad(start + "case 1 2=", 3, start.length() + 7);
        bad(start + "case 1 2 2=0;", 3, start.length() + 7);
        bad(start + "case 2 1=0;case 1 2=0;", 3, start.length() + 18);
        bad(start + "case 1 02 #", 3, start.length() + 7);
        String wide = "cyclic 3;width 3;word a;case 1 2 0=0;";
        good(wide + "case 1 2 1=0;case 1 0 0=0;case 2 2 0=0;case 0 1 2=0;case 0 2 1=0;case 2 1 0=0;ring 0;", "0");
        bad(wide + "case 1 2 0=0;", 3, wide.length() + 9);
        bad(wide + "case 1 2 =0;", 1, wide.length() + 9);
        String all = cases(12);
        bad(all.substring(0, all.length() - 11) + "case 0 0=1;ring 0;", 3, all.length() - 4);
        good("cyclic 3;width 2;word a;case 1 2=1;ring 0;", "0");
    }

    /** "An object is used for at most 512 calls": loads, as often as that. */
    private static void manyCalls() {
        GroupAutomaton x = new GroupAutomaton();
        for (int count = 0; count < 128; count++) {
            // "klei" "n;wi" "dth2" ";wor" "d a;" and "ring" " 1 2" " 3;;" or "ring" " 1 2" " 3; "
            x.append(0x6b6c6569, 0x6e3b7769, 0x64746832, 0x3b776f72, 0x6420613b);
            Checks.due("append", x.append(0x72696e67, 0x20312032, 0x20333b00 + (count % 2 == 0 ? ';' : ' '), BLANKS,
                    BLANKS), 40);
            Checks.same("load", Checks.answer(x::load), count % 2 == 0 ? "IllegalArgumentException" : "3");
            Checks.due("position", x.errorPosition(), count % 2 == 0 ? 31 : -1);
        }
    }
}
