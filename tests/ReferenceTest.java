import java.util.Random;

/** Runs of random calls, the same on an object of the class and on the naive one; all answers must agree. */
public final class ReferenceTest {
    private static final int RUNS = 900;
    private static final int CALLS = 512;
    /** A change and the ring after it, cell by cell. */
    private static final int MOST_AT_ONCE = 20;
    /** A text of 500 bytes, all states of a table, and what is asked then. */
    private static final int MOST_FOR_LOAD = 120;
    /** Rules with an inverse rule are rare among random ones; the ring is put behind. */
    private static final String[] TURNING = {
        "cyclic 6;width 2;word a*a*a*b*b*b*b;", "cyclic 4;width 2;word a*b*b;", "cyclic 4;width 3;word a*a*b*c*c;",
        "cyclic 6;width 3;word a*a*a*b*c*c*1;", "sym;width 2;word 3*b*4;", "sym;width 3;word b-;",
        "klein;width 2;word b*2;", "cyclic 3;width 3;word b;case 0 1 0=2;case 0 2 0=1;",
        "cyclic 5;width 3;word b*1;case 0 1 0=3;case 0 2 0=2;", "cyclic 4;width 3;word c;case 0 1 0=0;",
        "cyclic 3;width 2;word b-*1;", "cyclic 2;width 3;word 1*c;", "cyclic 2;width 3;word a;",
        "cyclic 6;width 3;word a*a*a*c*c*c*c;", "sym;width 3;word 1*a*1;case 1 1 1=1;",
        "klein;width 2;word a;case 0 1=1;case 0 3=1;case 1 0=0;case 2 1=3;case 2 3=3;case 3 0=2;case 3 2=2;",
    };

    /** Injective rules whose inverse rules have other widths and shifts, or none that is looked at, as tables. */
    private static final String[][] TABLES = {
        {"cyclic 2;width 3", "00110011"}, {"cyclic 3;width 2", "202111020"}, {"cyclic 3;width 2", "210201201"},
        {"cyclic 3;width 3", "000000000222111111111222222"}, {"cyclic 3;width 3", "001110222001110222001110222"},
        {"cyclic 3;width 3", "000000000111211211222122122"}, {"cyclic 3;width 3", "000000000211211111122122222"},
        {"cyclic 3;width 3", "001110222001110222001210122"}, {"cyclic 3;width 3", "002202111000111222000111222"},
        {"cyclic 3;width 3", "000212121000011122200211122"}, {"cyclic 3;width 3", "000122211000011122200211122"},
        {"cyclic 3;width 3", "002202111000111222000211122"}, {"cyclic 3;width 3", "002102211000211122000111222"},
        {"klein;width 2", "0030111122223303"}, {"klein;width 2", "0230111120223303"}, {"klein;width 2", "0213012301232103"},
        {"cyclic 5;width 2", "0000041312122232313134444"}, {"cyclic 5;width 2", "0123421034012342403112034"},
        {"sym;width 2", "030002515551222224443330304443151115"}, {"sym;width 2", "030000515551222234443322304443151115"},
        {"sym;width 2", "012345312045452103012345052143032145"},
        {"klein;width 3", "0000222211113333000011112222333300003333222211110000111122223333"},
        {"klein;width 3", "0010310122221333000031112222133300003112222113330000111122223333"},
        {"klein;width 3", "0030130322223111000031112222133300003112222113330000111122223333"},
        {"klein;width 3", "0000222133321113000011112222333300002112122133330000222211113333"},
    };

    private final Random random;
    private final GroupAutomaton real = new GroupAutomaton();
    private final Naive naive = new Naive();
    private int calls = 0;

    private ReferenceTest(int seed) {
        random = new Random(seed);
    }

    public static void main(String[] args) {
        int first = args.length > 0 ? Integer.parseInt(args[0]) : 0;
        int runs = args.length > 1 ? Integer.parseInt(args[1]) : RUNS;
        for (int run = first; run < first + runs; run++) {
            new ReferenceTest(run).run(run);
        }
        Checks.end();
    }

    /** What comes after 512 calls is free, so the last call is made before. */
    private void run(int run) {
        while (calls <= CALLS - MOST_AT_ONCE) {
            if (calls == 0 || calls <= CALLS - MOST_FOR_LOAD && random.nextInt(60) == 0) {
                if (random.nextInt(6) == 0) {
                    loadTable(run);
                } else {
                    loadSome(run);
                }
            }
            int kind = random.nextInt(100);
            if (kind < 30) {
                change(run);
            } else if (kind < 60) {
                askRing(run);
            } else if (kind < 85) {
                askRule(run);
            } else {
                askGroup(run);
            }
        }
    }

    private void both(String what, Checks.Call one, Checks.Call other) {
        calls++;
        Checks.same(what, Checks.answer(one), Checks.answer(other));
    }

    /** Mostly a number of the range, now and then one beside it or far off. */
    private int near(int least, int greatest) {
        switch (random.nextInt(24)) {
            case 0:
                return least - 1;
            case 1:
                return greatest + 1;
            case 2:
                return random.nextInt();
            default:
                return least + random.nextInt(greatest - least + 1);
        }
    }

    private int element() {
        return near(0, naive.g - 1);
    }

    private int cell() {
        return near(0, naive.ring.size() - 1);
    }

    // ---- texts

    private void loadSome(int run) {
        String text = random.nextInt(4) == 0 ? TURNING[random.nextInt(TURNING.length)] : randomRule();
        text = text + "ring" + randomRing(text) + ";";
        if (random.nextInt(3) == 0) {
            text = damaged(text);
        }
        load(run, text);
    }

    private void loadTable(int run) {
        String[] rule = TABLES[random.nextInt(TABLES.length)];
        load(run, rule[0] + ";word a;ring" + randomRing(rule[0]) + ";");
        int g = naive.g;
        for (int word = 0; word < rule[1].length() && naive.w == rule[0].charAt(rule[0].length() - 1) - '0'; word++) {
            int last = word;
            int a = naive.w == 2 ? last / g : last / g / g;
            int b = naive.w == 2 ? last % g : last / g % g;
            int state = rule[1].charAt(last) - '0';
            both(run + ": setCase", () -> real.setCase(a, b, last % g, state), () -> naive.setCase(a, b, last % g, state));
        }
    }

    private void load(int run, String text) {
        String cut = text.length() > 500 ? text.substring(0, 500) : text;
        while (cut.length() % 20 != 0) {
            cut += (char) ('a' + random.nextInt(4));
        }
        for (int at = 0; at < cut.length(); at += 20) {
            int[] four = new int[5];
            for (int k = 0; k < 20; k++) {
                four[k / 4] = four[k / 4] << 8 | cut.charAt(at + k) & 255;
            }
            both("append", () -> real.append(four[0], four[1], four[2], four[3], four[4]),
                    () -> naive.append(four[0], four[1], four[2], four[3], four[4]));
        }
        int length = random.nextInt(20) == 0 ? near(0, cut.length()) : Math.min(text.length(), 500);
        both("truncate", () -> real.truncate(length), () -> naive.truncate(length));
        both(run + ": load " + text, real::load, naive::load);
        both(run + ": code of " + text, real::errorCode, () -> naive.code);
        both(run + ": position of " + text, real::errorPosition, () -> naive.position);
    }

    private String randomRule() {
        StringBuilder text = new StringBuilder();
        int kind = random.nextInt(8);
        int g = kind < 5 ? kind + 2 : kind == 5 ? 4 : 6;
        text.append(kind < 5 ? "cyclic " + g : kind == 5 ? "klein" : "sym").append(";");
        int w = 2 + random.nextInt(2);
        text.append("width ").append(w).append(";word ");
        int terms = random.nextInt(12) == 0 ? 8 + random.nextInt(2) : 1 + random.nextInt(4);
        for (int k = 0; k < terms; k++) {
            int term = random.nextInt(w + 1);
            text.append(k == 0 ? "" : "*").append(term < w ? "" + (char) ('a' + term) : "" + random.nextInt(g));
            text.append(random.nextInt(4) == 0 ? "-" : "");
        }
        text.append(";");
        int cases = random.nextInt(3) > 0 ? 0 : random.nextInt(14);
        for (int k = 0; k < cases; k++) {
            text.append("case");
            for (int j = 0; j < w; j++) {
                text.append(" ").append(random.nextInt(g));
            }
            text.append("=").append(random.nextInt(g)).append(";");
        }
        return text.toString();
    }

    private String randomRing(String text) {
        int g = text.startsWith("cyclic") ? text.charAt(7) - '0' : text.startsWith("klein") ? 4 : 6;
        int n = random.nextInt(8) == 0 ? 14 + random.nextInt(4) : 1 + random.nextInt(7);
        StringBuilder ring = new StringBuilder();
        for (int k = 0; k < n; k++) {
            ring.append(" ").append(random.nextInt(g));
        }
        return ring.toString();
    }

    private String damaged(String text) {
        String signs = "abcdklwrx0123456789;*-= \n\t#\u00e9\0A";
        StringBuilder damaged = new StringBuilder(text);
        int at = random.nextInt(text.length());
        char sign = signs.charAt(random.nextInt(signs.length()));
        switch (random.nextInt(5)) {
            case 0:
                damaged.setCharAt(at, sign);
                break;
            case 1:
                damaged.insert(at, sign);
                break;
            case 2:
                damaged.deleteCharAt(at);
                break;
            case 3:
                damaged.setLength(at);
                break;
            default:
                damaged.insert(at, text, random.nextInt(at + 1), at);
                break;
        }
        return damaged.toString();
    }

    // ---- calls

    private void askGroup(int run) {
        int x = element();
        int y = element();
        int what = near(0, 3);
        int set = near(0, (1 << naive.g) - 1);
        both(run + ": order", real::order, naive::order);
        both(run + ": product", () -> real.product(x, y), () -> naive.product(x, y));
        both(run + ": element " + x + " " + what, () -> real.element(x, what), () -> naive.element(x, what));
        both(run + ": generated " + set, () -> real.generated(set), () -> naive.generated(set));
        both(run + ": subgroups", real::subgroups, naive::subgroups);
    }

    private void askRule(int run) {
        int a = element();
        int b = element();
        int c = element();
        both(run + ": rule", () -> real.rule(a, b, c), () -> naive.rule(a, b, c));
        both(run + ": width", real::width, naive::width);
        both(run + ": words", () -> real.words(a), () -> naive.words2(a));
        switch (random.nextInt(6)) {
            case 0:
                both(run + ": isHomomorphism", () -> one(real.isHomomorphism()), () -> one(naive.isHomomorphism()));
                both(run + ": closed", real::closed, naive::closed);
                break;
            case 1:
                boolean isRight = random.nextBoolean();
                both(run + ": isPermutive", () -> one(real.isPermutive(isRight)), () -> one(naive.isPermutive(isRight)));
                break;
            case 2:
                both(run + ": isSurjective", () -> one(real.isSurjective()), () -> one(naive.isSurjective()));
                both(run + ": diamond", real::diamond, naive::diamond);
                break;
            case 3:
                both(run + ": isInjective", () -> one(real.isInjective()), () -> one(naive.isInjective()));
                break;
            case 4:
                askInverse(run);
                break;
            default:
                askSums(run);
                break;
        }
    }

    private static long one(boolean is) {
        return is ? 1 : 0;
    }

    private void askInverse(int run) {
        int what = near(0, 2);
        int word = decimal();
        both(run + ": inverse " + what, () -> real.inverse(what), () -> naive.inverse(what));
        both(run + ": inverseOf " + word, () -> real.inverseOf(word), () -> naive.inverseOf(word));
    }

    private int decimal() {
        int digits = random.nextInt(6);
        int decimal = 0;
        for (int k = 0; k < digits; k++) {
            decimal = 10 * decimal + Math.floorMod(near(0, naive.g - 1), 10);
        }
        return random.nextInt(20) == 0 ? random.nextInt() : decimal;
    }

    private void askSums(int run) {
        both(run + ": sums", real::sums, naive::sums);
        int row = near(0, naive.sums() - 1);
        int state = element();
        int part = near(0, 1);
        both(run + ": sum", () -> real.sum(row, state, part), () -> naive.sum(row, state, part));
        both(run + ": value", () -> real.value(row, part), () -> naive.value(row, part));
    }

    private void askRing(int run) {
        int cell = cell();
        int what = near(0, 1);
        int cells = near(1, 16);
        both(run + ": size", real::size, naive::size);
        both(run + ": cell", () -> real.cell(cell), () -> naive.cell(cell));
        both(run + ": total", real::total, naive::total);
        both(run + ": density", () -> Double.doubleToLongBits(real.density()),
                () -> Double.doubleToLongBits(naive.density()));
        switch (random.nextInt(5)) {
            case 0:
                both(run + ": cycle", () -> real.cycle(what), () -> naive.cycle(what));
                break;
            case 1:
                if (naive.isSmall(cells)) {
                    both(run + ": fixed " + cells, () -> real.fixed(cells), () -> naive.fixed(cells));
                }
                break;
            case 2:
                if (naive.isSmall(cells)) {
                    both(run + ": kernel " + cells, () -> real.kernel(cells), () -> naive.kernel(cells));
                }
                break;
            default:
                if (naive.isSmall(naive.ring.size())) {
                    both(run + ": preimages", real::preimages, naive::preimages);
                    both(run + ": preimage", () -> real.preimage(cell), () -> naive.preimage(cell));
                }
                break;
        }
    }

    private void change(int run) {
        int x = element();
        int slot = near(0, 1);
        int steps = random.nextInt(3) == 0 ? near(1, 100) : near(1, 3);
        int cell = cell();
        int by = random.nextInt(3) == 0 ? random.nextInt() : near(-20, 20);
        int kind = random.nextInt(17);
        if (kind < 3) {
            both(run + ": step", () -> real.step(steps), () -> naive.step(steps));
        } else if (kind < 5) {
            both(run + ": back", () -> real.back(steps), () -> naive.back(steps));
        } else if (kind < 7) {
            both(run + ": set", () -> real.set(cell, x), () -> naive.set(cell, x));
        } else if (kind < 8) {
            both(run + ": grow", () -> real.grow(x), () -> naive.grow(x));
        } else if (kind < 9) {
            both(run + ": rotate", () -> real.rotate(by), () -> naive.rotate(by));
        } else if (kind < 11) {
            both(run + ": keep", () -> real.keep(slot), () -> naive.keep(slot));
        } else if (kind < 13) {
            both(run + ": multiply", () -> real.multiply(slot), () -> naive.multiply(slot));
        } else if (kind < 14) {
            int b = element();
            int c = element();
            int state = element();
            both(run + ": setCase", () -> real.setCase(x, b, c, state), () -> naive.setCase(x, b, c, state));
        } else {
            both(run + ": undo", real::undo, naive::undo);
        }
        calls += 1 + naive.ring.size();
        Checks.same(run + ": ring", Checks.ringOf(real), String.join("", naive.ring.stream().map(String::valueOf).toList()));
    }
}
