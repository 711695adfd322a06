import java.util.EnumSet;

/**
 * Objects that are made alike, and all that can be asked of them. If a call changes nothing, then an object on which
 * it was made answers everything as its twin does, on which it was not.
 *
 * <p>Each view is asked of an object of its own, so that no object is used for more than 512 calls.
 */
final class Twins {
    interface Recipe {
        GroupAutomaton make();
    }

    interface Use {
        long on(GroupAutomaton x);
    }

    enum View { ERRORS, BUFFER, GROUP, RULE, ROWS, SUMS, RING, PASTS, SIZES, SLOTS, UNDO_RINGS, UNDO_RULES }

    /** What does not hang on the states of the ring, on the slots, or on what can be undone. */
    static final EnumSet<View> APART_FROM_RING = EnumSet.of(View.ERRORS, View.BUFFER, View.GROUP, View.RULE, View.ROWS,
            View.SIZES);

    /** What does not hang on the rule. */
    static final EnumSet<View> APART_FROM_RULE = EnumSet.of(View.ERRORS, View.BUFFER, View.GROUP);

    private Twins() {
    }

    /** The call is refused, and everything else answers as before. */
    static void refused(String what, Recipe recipe, Class<? extends RuntimeException> exception, Use use) {
        GroupAutomaton x = recipe.make();
        Checks.same(what, Checks.answer(() -> use.on(x)), exception.getSimpleName());
        same(what + ", refused,", recipe, y -> 0, recipe, use, EnumSet.allOf(View.class));
    }

    /** The call answers, and everything else answers as before. */
    static void asked(String what, Recipe recipe, Use use) {
        same(what, recipe, x -> 0, recipe, use, EnumSet.allOf(View.class));
    }

    static void same(String what, Recipe one, Use useOfOne, Recipe other, Use useOfOther, EnumSet<View> views) {
        for (View view : views) {
            Checks.same(what + " and then " + view, story(other, useOfOther, view), story(one, useOfOne, view));
        }
    }

    static String story(Recipe recipe, Use use, View view) {
        GroupAutomaton x = recipe.make();
        Checks.answer(() -> use.on(x));
        StringBuilder story = new StringBuilder();
        tell(x, view, story);
        return story.toString();
    }

    static void tell(GroupAutomaton x, View view, StringBuilder story) {
        switch (view) {
            case ERRORS -> answers(story, x::errorCode, x::errorPosition);
            case BUFFER -> tellBuffer(x, story);
            case GROUP -> tellGroup(x, story);
            case RULE -> tellRule(x, story);
            case ROWS -> tellRows(x, story);
            case SUMS -> tellSums(x, story);
            case RING -> tellRing(x, story);
            case PASTS -> tellPasts(x, story);
            case SIZES -> tellSizes(x, story);
            case SLOTS -> tellSlots(x, story);
            case UNDO_RINGS -> tellUndos(x, story, false);
            case UNDO_RULES -> tellUndos(x, story, true);
        }
    }

    private static void answers(StringBuilder story, Checks.Call... calls) {
        for (Checks.Call call : calls) {
            story.append(Checks.answer(call)).append(' ');
        }
    }

    /** The length, by cutting or by appending, and the bytes, by what load says of them. */
    private static void tellBuffer(GroupAutomaton x, StringBuilder story) {
        story.append(cutToWhatIsThere(x)).append(' ');
        String loaded = Checks.answer(x::load);
        story.append(loaded).append(' ');
        answers(story, x::errorCode, x::errorPosition);
        if (!loaded.endsWith("Exception")) {
            answers(story, x::order, x::width, () -> x.rule(1, 0, 1));
            story.append(Checks.ringOf(x));
        }
    }

    private static int cutToWhatIsThere(GroupAutomaton x) {
        String longer = Checks.answer(() -> x.append(0, 0, 0, 0, 0));
        int greatest = longer.equals("IllegalStateException") ? 500 : Integer.parseInt(longer) - 20;
        for (int length = greatest; length > 480; length--) {
            int tried = length;
            if (Checks.answer(() -> x.truncate(tried)).equals(Integer.toString(tried))) {
                return length;
            }
        }
        return x.truncate(greatest);
    }

    private static void tellGroup(GroupAutomaton x, StringBuilder story) {
        int g = x.order();
        answers(story, x::order, x::subgroups);
        for (int a = 0; a < g; a++) {
            for (int b = 0; b < g; b++) {
                story.append(x.product(a, b));
            }
            for (int what = 0; what < 4; what++) {
                story.append(' ').append(x.element(a, what));
            }
        }
        for (int set = 0; set < 1 << g; set++) {
            story.append(' ').append(x.generated(set));
        }
    }

    private static void tellRule(GroupAutomaton x, StringBuilder story) {
        answers(story, x::width, x::closed, () -> x.isHomomorphism() ? 1 : 0, () -> x.isPermutive(false) ? 1 : 0,
                () -> x.isPermutive(true) ? 1 : 0);
        tellTable(x, story);
        answers(story, () -> x.words(0), () -> x.words(1), () -> x.words(2), () -> x.words(3), () -> x.words(4),
                () -> x.words(5));
    }

    private static void tellTable(GroupAutomaton x, StringBuilder story) {
        int g = x.order();
        int thirds = x.width() == 3 ? g : 1;
        for (int word = 0; word < g * g * thirds; word++) {
            story.append(x.rule(word / thirds / g, word / thirds % g, word % thirds));
        }
        story.append(' ');
    }

    /** Of the table of width 3 only the words a b a, so that it can be told for each of ten changes. */
    private static void tellPartOfTable(GroupAutomaton x, StringBuilder story) {
        int g = x.order();
        for (int word = 0; word < g * g; word++) {
            story.append(x.rule(word / g, word % g, word / g));
        }
    }

    private static void tellRows(GroupAutomaton x, StringBuilder story) {
        answers(story, () -> x.isSurjective() ? 1 : 0, () -> x.isInjective() ? 1 : 0, x::diamond, () -> x.inverse(0),
                () -> x.inverse(1), () -> x.inverse(2));
        for (int word = 0; word < 67; word++) {
            int tried = word;
            answers(story, () -> x.inverseOf(tried), () -> x.inverseOf(111 * tried));
        }
    }

    private static void tellSums(GroupAutomaton x, StringBuilder story) {
        answers(story, x::sums);
        for (int row = 0; row < x.sums(); row++) {
            answers(story, () -> x.value(x.sums() - 1, 0), () -> x.value(x.sums() - 1, 1));
            for (int state = 0; state < x.order(); state++) {
                story.append(x.sum(row, state, 0)).append('/').append(x.sum(row, state, 1)).append(' ');
            }
        }
    }

    private static void tellRing(GroupAutomaton x, StringBuilder story) {
        answers(story, x::size, x::total, () -> Double.doubleToLongBits(x.density()));
        story.append(Checks.ringOf(x));
    }

    private static void tellPasts(GroupAutomaton x, StringBuilder story) {
        answers(story, x::preimages, () -> x.cycle(0), () -> x.cycle(1));
        for (int cell = 0; cell < x.size(); cell++) {
            int asked = cell;
            answers(story, () -> x.preimage(asked));
        }
    }

    private static void tellSizes(GroupAutomaton x, StringBuilder story) {
        for (int cells = 1; cells <= 16; cells++) {
            story.append(x.fixed(cells)).append(' ').append(x.kernel(cells)).append(' ');
        }
    }

    private static void tellSlots(GroupAutomaton x, StringBuilder story) {
        for (int slot = 0; slot < 2; slot++) {
            int asked = slot;
            String answer = Checks.answer(() -> x.multiply(asked));
            story.append(answer).append(' ').append(Checks.ringOf(x)).append(' ');
            if (!answer.endsWith("Exception")) {
                x.undo();
            }
        }
    }

    private static void tellUndos(GroupAutomaton x, StringBuilder story, boolean isOfRules) {
        String left = "";
        while (!left.endsWith("Exception")) {
            if (isOfRules) {
                tellPartOfTable(x, story);
            } else {
                story.append(Checks.ringOf(x));
            }
            left = Checks.answer(x::undo);
            story.append(' ').append(left).append(' ');
        }
    }
}
