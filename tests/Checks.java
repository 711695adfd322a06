import java.util.NoSuchElementException;

/** What the tests share: counting wrong answers, and loading a text in pieces of 20 bytes. */
final class Checks {
    /** A call of the class, so that what it throws can be looked at. */
    interface Call {
        long run();
    }

    private static int made = 0;
    private static int wrong = 0;

    private Checks() {
    }

    static void due(String what, long got, long want) {
        made++;
        if (got != want) {
            wrong++;
            System.out.println(what + " answered " + got + ", due is " + want);
        }
    }

    static void due(String what, boolean got, boolean want) {
        due(what, got ? 1 : 0, want ? 1 : 0);
    }

    /** The answer of a call, or the name of the very class that it throws. */
    static String answer(Call call) {
        try {
            return Long.toString(call.run());
        } catch (RuntimeException e) {
            return e.getClass().getSimpleName();
        }
    }

    static void same(String what, String got, String want) {
        made++;
        if (!got.equals(want)) {
            wrong++;
            System.out.println(what + " answered " + got + ", due is " + want);
        }
    }

    static void index(String what, Call call) {
        same(what, answer(call), IndexOutOfBoundsException.class.getSimpleName());
    }

    static void argument(String what, Call call) {
        same(what, answer(call), IllegalArgumentException.class.getSimpleName());
    }

    static void state(String what, Call call) {
        same(what, answer(call), IllegalStateException.class.getSimpleName());
    }

    static void none(String what, Call call) {
        same(what, answer(call), NoSuchElementException.class.getSimpleName());
    }

    /** Puts a text behind what stands in the buffer. */
    static void write(GroupAutomaton x, String text) {
        int before = x.truncate(lengthOf(x));
        int full = (text.length() + 19) / 20 * 20;
        StringBuilder padded = new StringBuilder(text);
        while (padded.length() < full) {
            padded.append(' ');
        }
        for (int at = 0; at < full; at += 20) {
            x.append(four(padded, at), four(padded, at + 4), four(padded, at + 8), four(padded, at + 12),
                    four(padded, at + 16));
        }
        x.truncate(before + text.length());
    }

    /** The buffer tells its length only when it changes: the greatest length that it can be cut to. */
    private static int lengthOf(GroupAutomaton x) {
        for (int length = 500; length > 0; length--) {
            try {
                return x.truncate(length);
            } catch (IndexOutOfBoundsException e) {
                // the buffer is shorter
            }
        }
        return 0;
    }

    private static int four(CharSequence text, int at) {
        return text.charAt(at) << 24 | text.charAt(at + 1) << 16 | text.charAt(at + 2) << 8 | text.charAt(at + 3);
    }

    static GroupAutomaton automaton(String text) {
        GroupAutomaton x = new GroupAutomaton();
        write(x, text);
        x.load();
        return x;
    }

    static String ringOf(GroupAutomaton x) {
        StringBuilder states = new StringBuilder();
        for (int k = 0; k < x.size(); k++) {
            states.append(x.cell(k));
        }
        return states.toString();
    }

    /** To be called at the end of each test. */
    static void end() {
        System.out.println(made + " checks, " + wrong + " wrong");
        if (wrong != 0 || made == 0) {
            System.exit(1);
        }
    }
}
