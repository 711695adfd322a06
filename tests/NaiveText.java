import java.util.ArrayList;
import java.util.HashMap;
import java.util.List;
import java.util.Map;
import java.util.regex.Matcher;
import java.util.regex.Pattern;

/** Reads a text of the document by its list of tokens. */
final class NaiveText {
    private static final Pattern TOKEN = Pattern.compile("[a-z]+|[0-9]+|[^ \n]", Pattern.DOTALL);

    private static final class Wrong extends RuntimeException {
        private static final long serialVersionUID = 1L;
        final int code;

        Wrong(int code) {
            this.code = code;
        }
    }

    int code = 0;
    int position = -1;
    String kind;
    int g;
    int w;
    final List<String[]> terms = new ArrayList<>();
    final Map<List<Integer>, Integer> cases = new HashMap<>();
    final List<Integer> ring = new ArrayList<>();
    private final List<String> tokens = new ArrayList<>();
    private final List<Integer> starts = new ArrayList<>();
    private int at = 0;

    NaiveText(String text) {
        Matcher matcher = TOKEN.matcher(text);
        while (matcher.find()) {
            tokens.add(matcher.group());
            starts.add(matcher.start());
        }
        tokens.add("");
        starts.add(text.length());
        try {
            all();
        } catch (Wrong e) {
            code = e.code;
            position = starts.get(at);
        }
    }

    private String token() {
        return tokens.get(at);
    }

    private void need(boolean isGood, int newCode) {
        if (!isGood) {
            throw new Wrong(newCode);
        }
    }

    private void take(String want) {
        need(token().equals(want), 1);
        at++;
    }

    /** Looks at a number; the caller goes on behind it. */
    private int number(int least, int most) {
        need(token().matches("[0-9]{1,2}"), 1);
        int number = Integer.parseInt(token());
        need(number >= least && number <= most, 2);
        return number;
    }

    private void all() {
        need(token().matches("cyclic|klein|sym"), 1);
        kind = token();
        at++;
        g = kind.equals("klein") ? 4 : 6;
        if (kind.equals("cyclic")) {
            g = number(2, 6);
            at++;
        }
        take(";");
        take("width");
        w = number(2, 3);
        at++;
        take(";");
        take("word");
        term();
        while (token().equals("*")) {
            at++;
            term();
        }
        take(";");
        while (token().equals("case")) {
            need(cases.size() < 12, 4);
            oneCase();
        }
        take("ring");
        do {
            int state = number(0, g - 1);
            need(ring.size() < 16, 4);
            ring.add(state);
            at++;
        } while (!token().equals(";"));
        at++;
        need(token().isEmpty(), 1);
    }

    private void term() {
        String first = token();
        if (!first.matches(w == 3 ? "[abc]" : "[ab]")) {
            number(0, g - 1);
        }
        need(terms.size() < 8, 4);
        at++;
        String sign = "";
        if (token().equals("-")) {
            sign = "-";
            at++;
        }
        terms.add(new String[] {first, sign});
    }

    private void oneCase() {
        take("case");
        List<Integer> word = new ArrayList<>();
        while (word.size() < w) {
            word.add(number(0, g - 1));
            need(word.size() < w || !cases.containsKey(word), 3);
            at++;
        }
        take("=");
        cases.put(word, number(0, g - 1));
        at++;
        take(";");
    }
}
