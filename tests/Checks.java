import java.util.NoSuchElementException;

/** What the tests share: counting wrong answers, and loading a text in pieces of 20 bytes. */
final class Checks {
    /** A call of the class, so that what it throws can be looked at. */
    interface Call {
        long run();
    }

    private static int made = 0;
    private static int wrong = 0;

    private Checks() {
    }

    static void due(String what, long got, long want) {
        made++;
        if (got != want) {
            wrong++;
            System.out.println(what + " answered " + got + ", due is " + want);
        }
    }

    static void due(String what, boolean got, boolean want) {
        due(what, got ? 1 : 0, want ? 1 : 0);
    }

    /** The answer of a call, or the name of the very class that it throws. */
    static String answer(Call call) {
        try {
            return Long.toString(call.run());
        } catch (RuntimeException e) {
            return e.getClass().getSimpleName();
        }
    }

    static void same(String what, String got, String want) {
        made++;
        if (!got.equals(want)) {
            wrong++;
            System.out.println(what + " answered " + got + ", due is " + want);
        }
    }

    static void index(String what, Call call) {
        same(what, answer(call), IndexOutOfBoundsException.class.getSimpleName());
    }

    static void argument(String what, Call call) {
        same(what, answer(call), IllegalArgumentException.class.getSimpleName());
    }

    static void state(String what, Call call) {
        same(what, answer(call), IllegalStateException.class.getSimpleName());
    }

    static void none(String what, Call call) {
        same(what, answer(call), NoSuchElementException.class.getSimpleName());
    }

    /** Puts a text into the buffer, which must be empty: 20 bytes a call, then what was too much is cut off. */
    static void write(GroupAutomaton x, String text) {
        StringBuilder padded = new StringBuilder(text);
        while (padded.length() % 20 != 0) {
            padded.append(' ');
        }
        for (int at = 0; at < padded.length(); at += 20) {
            x.append(four(padded, at), four(padded, at + 4), four(padded, at + 8), four(padded, at + 12),
                    four(padded, at + 16));
        }
        x.truncate(text.length());
    }

    private static int four(CharSequence text, int at) {
        return text.charAt(at) << 24 | text.charAt(at + 1) << 16 | text.charAt(at + 2) << 8 | text.charAt(at + 3);
    }

    static GroupAutomaton automaton(String text) {
        GroupAutomaton x = new GroupAutomaton();
        write(x, text);
        x.load();
        return x;
    }

    /** The automaton of a text that gets its rule by setCase: the states for all words, in their order. */
    static GroupAutomaton table(String group, int width, String states, String ring) {
        GroupAutomaton x = automaton(group + ";width " + width + ";word a;ring " + ring + ";");
        int g = x.order();
        for (int word = 0; word < states.length(); word++) {
            int a = width == 2 ? word / g : word / g / g;
            int b = width == 2 ? word % g : word / g % g;
            x.setCase(a, b, word % g, states.charAt(word) - '0');
        }
        return x;
    }

    static String ringOf(GroupAutomaton x) {
        StringBuilder states = new StringBuilder();
        int size = x.size();
        for (int k = 0; k < size; k++) {
            states.append(x.cell(k));
        }
        return states.toString();
    }

    /** To be called at the end of each test. */
    static void end() {
        System.out.println(made + " checks, " + wrong + " wrong");
        if (wrong != 0 || made == 0) {
            System.exit(1);
        }
    }
}
