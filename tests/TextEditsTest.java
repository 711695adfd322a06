import java.util.ArrayList;
import java.util.Arrays;
import java.util.List;
import java.util.regex.Matcher;
import java.util.regex.Pattern;

/**
 * Promises 4 to 6: texts in which one thing is changed, all there are of such texts. Whether they have an error, and
 * where, must be what NaiveText says.
 */
public final class TextEditsTest {
    private static final Pattern TOKEN = Pattern.compile("[a-z]+|[0-9]+|[^ \n]");
    private static final String[] TEXTS = {
        "cyclic 3;width 3;word a-*c*2;case 0 1 2=0;case 2 2 2=1;ring 0 1 2;",
        " klein;width 2;\nword 3-*b;case 01 2=3;ring 3 3 ; ",
        "sym;width 2;word a*b*a*b*a*b*a*b;ring 0 1 2 3 4 5 0 1 2 3 4 5 0 1 2 5;",
        "cyclic 2;width 3;word c;case 0 0 0=0;case 0 0 1=1;case 0 1 0=1;case 0 1 1=0;case 1 0 0=1;case 1 0 1=1;ring 1;",
        "cyclic 6;width 2;word b;case 0 0=5;case 0 1=4;case 0 2=3;case 0 3=2;case 0 4=1;case 0 5=0;case 5 0=5;"
            + "case 5 1=4;case 5 2=3;case 5 3=2;case 5 4=1;case 5 5=0;ring 5 0;",
    };
    private static final List<String> OTHER_TOKENS = Arrays.asList(
            "cyclic klein sym width word case ring a b c d ; * - = 0 1 2 3 4 5 6 7 01 05 06 10 000 123 #".split(" "));

    private TextEditsTest() {
    }

    public static void main(String[] args) {
        for (String text : TEXTS) {
            read(text);
            bytes(text);
            cuts(text);
            tokens(text);
        }
        Checks.end();
    }

    private static void read(String text) {
        GroupAutomaton x = new GroupAutomaton();
        Checks.write(x, text);
        NaiveText due = new NaiveText(text);
        Checks.same("load of " + text, Checks.answer(x::load),
                due.code == 0 ? Integer.toString(due.ring.size()) : "IllegalArgumentException");
        Checks.due("code of " + text, x.errorCode(), due.code);
        Checks.due("position of " + text, x.errorPosition(), due.position);
        Checks.due("order after " + text, x.order(), due.code == 0 ? due.g : 2);
        Checks.due("width after " + text, x.width(), due.code == 0 ? due.w : 2);
        String ring = due.code == 0 ? String.join("", due.ring.stream().map(String::valueOf).toList()) : "0";
        Checks.same("ring after " + text, Checks.ringOf(x), ring);
    }

    private static void bytes(String text) {
        for (int at = 0; at <= text.length(); at++) {
            for (char other = 0; other < 256; other++) {
                // of the bytes that start no token, some stand for all
                if (other < 128 || other % 32 == 10) {
                    read(text.substring(0, at) + other + text.substring(at));
                    if (at < text.length()) {
                        read(text.substring(0, at) + other + text.substring(at + 1));
                    }
                }
            }
        }
    }

    private static void cuts(String text) {
        for (int at = 0; at < text.length(); at++) {
            read(text.substring(0, at));
            read(text.substring(at));
            read(text.substring(0, at) + text.substring(at + 1));
        }
    }

    private static List<String> tokensOf(String text) {
        List<String> tokens = new ArrayList<>();
        Matcher matcher = TOKEN.matcher(text);
        while (matcher.find()) {
            tokens.add(matcher.group());
        }
        return tokens;
    }

    private static void tokens(String text) {
        List<String> tokens = tokensOf(text);
        for (int at = 0; at < tokens.size(); at++) {
            for (String other : OTHER_TOKENS) {
                changed(tokens, at, at + 1, List.of(other));
                changed(tokens, at, at, List.of(other));
            }
            for (int to = at; to <= tokens.size(); to++) {
                changed(tokens, at, to, List.of());
                changed(tokens, at, at, tokens.subList(at, to));
            }
            for (int other = 0; other < at; other++) {
                List<String> swapped = new ArrayList<>(tokens);
                swapped.set(at, tokens.get(other));
                swapped.set(other, tokens.get(at));
                read(String.join(" ", swapped));
            }
        }
    }

    private static void changed(List<String> tokens, int from, int to, List<String> inPlace) {
        List<String> changed = new ArrayList<>(tokens.subList(0, from));
        changed.addAll(inPlace);
        changed.addAll(tokens.subList(to, tokens.size()));
        String text = String.join(" ", changed);
        if (text.length() <= 500) {
            read(text);
        }
    }
}
