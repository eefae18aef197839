import java.util.function.Supplier;

/** A test of its own for each sentence of the document that names a boundary case. */
public final class EdgesTest {
    private static final int NO_SUCH = -1001, BAD_VALUE = -1002, BAD_TEXT = -1003, TOO_MANY = -1004, NOT_POSSIBLE = -1005, NONE = -1006;
    private static final int MEASURE = 0, SPACE = 1, LOOSE = 2, HANGS = 3;
    private static final int LEAST_INT = Integer.MIN_VALUE, GREATEST_INT = Integer.MAX_VALUE;
    private static final String SIGNS = "a.,;:-'!";
    private static final String TWENTY_FOUR = "a_b_c_d_e_f_g_h_i_j_k_l_m_n_o_p_q_r_s_t_u_v_w_x";
    private static final String SIXTY = "abcdefghij_abcdefghij_abcdefghij_abcdefghij_abcdefghij_abcde";

    /** In narrow letters and a measure of 20: greedily 3, 1, 1 words, in the best way 2, 2, 1. */
    private static final int[] DIFFERS = {6, 8, 4, 10, 10};

    /** In narrow letters and a measure of 20: greedily 4 lines, in the best way 5. */
    private static final int[] FEWER_GREEDILY = {4, 8, 4, 10, 9, 9, 1, 9, 7, 2};

    private static int tests = 0;
    private static int failed = 0;
    private static int checked = 0;
    private static int wrong = 0;

    private interface Act {
        long on(HungStops x);
    }

    public static void main(String[] args) {
        conventions();
        settings();
        face();
        wordsAndLines();
        indentedLines();
        greedyWay();
        bestWay();
        texts();
        aNewObject();
        set();
        sort();
        read();
        drop();
        swap();
        clear();
        sortOf();
        word();
        line();
        lines();
        count();
        body();
        leastMeasure();
        bestShare();
        worstWord();
        put();
        wipe();
        fault();
        undo();
        save();
        restore();
        System.out.println(failed == 0 ? tests + " edges hold, by " + checked + " answers" : failed + " edges of " + tests + " do not hold");
        if (failed != 0) System.exit(1);
    }

    // ---- how a test is told

    private static void test(String where, String sentence, Runnable calls) {
        int before = wrong;
        tests++;
        try {
            calls.run();
        } catch (RuntimeException thrown) {
            wrong++;
            System.out.println("  " + thrown);
        }
        if (wrong == before) return;
        failed++;
        System.out.println("does not hold: " + where + ": " + sentence);
    }

    private static void due(String call, long got, long want) {
        checked++;
        if (got == want) return;
        wrong++;
        System.out.println("  " + call + " answered " + got + ", due is " + want);
    }

    private static void dueText(String what, String got, String want) {
        checked++;
        if (got.equals(want)) return;
        wrong++;
        System.out.println("  " + what + " is " + got + ", due is " + want);
    }

    // ---- objects

    private static long packed(String text) {
        long number = 0;
        for (int at = 0; at < text.length(); at++) number = number << 8 | text.charAt(at);
        return number;
    }

    private static HungStops type(HungStops x, String text) {
        for (int at = 0; at < text.length(); at += 8) x.put(packed(text.substring(at, Math.min(at + 8, text.length()))));
        return x;
    }

    private static HungStops add(HungStops x, String text) {
        type(x, text);
        if (x.read() < 0) throw new IllegalStateException("not read: " + text);
        return x;
    }

    private static HungStops with(String text) {
        return add(new HungStops(), text);
    }

    private static HungStops typed(String text) {
        return type(new HungStops(), text);
    }

    private static String letters(int length) {
        return "abcdefghij".substring(0, length);
    }

    private static HungStops withWords(int... lengths) {
        HungStops x = new HungStops();
        for (int length : lengths) add(x, letters(length));
        return x;
    }

    /** Letters and a space of one unit, letters that hang nowhere, and a measure of 20. */
    private static HungStops narrow(HungStops x) {
        x.sort(0, 1, 0, 0);
        x.set(SPACE, 1);
        x.set(MEASURE, 20);
        return x;
    }

    private static HungStops narrow(int... lengths) {
        return narrow(withWords(lengths));
    }

    /** Differs from a new object in all that there is; slot 0 is empty. */
    private static HungStops rich() {
        HungStops x = with("'ab_cd,_e;fgh_i-j!");
        x.set(SPACE, 3);
        x.save(1);
        x.sort(2, 7, 10, 90);
        x.set(MEASURE, 50);
        x.drop(3);
        return type(x, "xy_z.");
    }

    private static HungStops full() {
        HungStops x = with(TWENTY_FOUR);
        x.set(LOOSE, 7);
        x.save(0);
        return x;
    }

    // ---- what an object holds

    /** The settings, the face, the words and the lines: what undo and restore bring back. */
    private static String stateOf(HungStops x) {
        StringBuilder text = new StringBuilder();
        for (int what = 0; what < 8; what++) text.append(x.count(what)).append(' ');
        for (int sort = 0; sort < 8; sort++) {
            for (int what = 0; what < 3; what++) text.append(x.sortOf(sort, what)).append(' ');
        }
        int words = x.count(4);
        for (int word = 0; word < words; word++) text.append(textOf(x, word)).append(' ');
        for (int way = 0; way < 2; way++) {
            for (int what = 0; what < 5; what++) text.append(x.lines(way, what)).append(' ');
        }
        return text.toString();
    }

    /** The state, and what can be told of the pad and of the history. */
    private static String seen(HungStops x) {
        return stateOf(x) + "pad " + x.count(8) + ", fault " + x.fault() + ", changes " + x.count(9);
    }

    private static String textOf(HungStops x, int word) {
        StringBuilder text = new StringBuilder();
        int signs = x.word(word, 0);
        for (int sign = 0; sign < signs; sign++) text.append((char) x.word(word, 4 + sign));
        return text.toString();
    }

    /** All that an object holds after a call, its history, its slots and its pad with it; each look is one at a new object. */
    private static String heldAfter(Supplier<HungStops> maker, Act call) {
        StringBuilder text = new StringBuilder();
        for (int undone = 0; undone <= 6; undone++) {
            HungStops x = made(maker, call);
            text.append("undone ").append(undone).append(": ");
            for (int time = 0; time < undone; time++) text.append(x.undo()).append(' ');
            text.append(seen(x)).append('\n');
        }
        for (int slot = 0; slot < 2; slot++) {
            HungStops x = made(maker, call);
            text.append("slot ").append(slot).append(": ").append(x.restore(slot)).append(' ').append(seen(x)).append('\n');
        }
        HungStops x = made(maker, call);
        x.clear();
        return text.append("pad: ").append(x.read()).append(' ').append(seen(x)).toString();
    }

    private static HungStops made(Supplier<HungStops> maker, Act call) {
        HungStops x = maker.get();
        call.on(x);
        return x;
    }

    private static void changesNothing(String what, Supplier<HungStops> maker, Act call) {
        dueText("what is held after " + what, heldAfter(maker, call), heldAfter(maker, x -> 0));
    }

    private static void refused(int error, Supplier<HungStops> maker, Act call) {
        due("the refused call", call.on(maker.get()), error);
        changesNothing("the refused call", maker, call);
    }

    /** That the call is recorded, once, and that its undo brings back the state; the history must not be full. */
    private static void isChange(Supplier<HungStops> maker, Act call) {
        HungStops x = maker.get();
        int changes = x.count(9);
        if (call.on(x) < 0) due("an error of the call", 1, 0);
        due("changes after", x.count(9), changes + 1);
        due("undo", x.undo(), changes);
        dueText("what undo brings back", stateOf(x), stateOf(maker.get()));
    }

    private static void isNoChange(Supplier<HungStops> maker, Act call) {
        HungStops x = maker.get();
        int before = x.count(9);
        if (call.on(x) < 0) due("an error of the call", 1, 0);
        due("changes after", x.count(9), before);
    }

    private static void starts(HungStops x, int way, int... firsts) {
        due("lines(" + way + ", 0)", x.lines(way, 0), firsts.length);
        for (int line = 0; line < firsts.length; line++) {
            int behind = line + 1 < firsts.length ? firsts[line + 1] : x.count(4);
            due("line(" + way + ", " + line + ", 0)", x.line(way, line, 0), firsts[line]);
            due("line(" + way + ", " + line + ", 1)", x.line(way, line, 1), behind - firsts[line]);
        }
    }

    // ---- the terms

    private static void conventions() {
        test("Conventions", "the first error that applies is returned: sort, NO_SUCH ahead of BAD_VALUE", () ->
            due("sort(8, 0, -1, 101)", rich().sort(8, 0, -1, 101), NO_SUCH));
        test("Conventions", "the first error that applies is returned: read, BAD_TEXT ahead of TOO_MANY", () ->
            due("read()", type(full(), "a_").read(), BAD_TEXT));
        test("Conventions", "the first error that applies is returned: swap, NO_SUCH ahead of BAD_VALUE", () -> {
            due("swap(3, 3)", rich().swap(3, 3), NO_SUCH);
            due("swap(-1, -1)", rich().swap(-1, -1), NO_SUCH);
        });
        test("Conventions", "the first error that applies is returned: sortOf, NO_SUCH ahead of BAD_VALUE", () ->
            due("sortOf(-1, -1)", rich().sortOf(-1, -1), NO_SUCH));
        test("Conventions", "the first error that applies is returned: word, NO_SUCH ahead of BAD_VALUE", () ->
            due("word(3, -1)", rich().word(3, -1), NO_SUCH));
        test("Conventions", "the first error that applies is returned: line, BAD_VALUE ahead of NO_SUCH", () -> {
            due("line(2, 99, 0)", rich().line(2, 99, 0), BAD_VALUE);
            due("line(0, 99, 9)", rich().line(0, 99, 9), BAD_VALUE);
        });
        test("Conventions", "the first error that applies is returned: put, BAD_VALUE ahead of TOO_MANY", () -> {
            due("put(32)", typed(SIXTY).put(32), BAD_VALUE);
            due("put(0)", typed(SIXTY).put(0), BAD_VALUE);
        });
        test("Conventions", "the first error that applies is returned: restore, BAD_VALUE ahead of NOT_POSSIBLE", () ->
            due("restore(2)", new HungStops().restore(2), BAD_VALUE));
        test("Conventions", "NONE is returned only if no error applies", () -> {
            HungStops x = new HungStops();
            due("word(0, 99)", x.word(0, 99), NO_SUCH);
            due("line(0, 0, 6)", x.line(0, 0, 6), NO_SUCH);
            due("lines(2, 4)", x.lines(2, 4), BAD_VALUE);
            due("leastMeasure(0)", withWords(10, 10, 10).leastMeasure(0), BAD_VALUE);
        });
        test("Conventions", "everything is numbered from 0", () -> {
            HungStops x = rich();
            due("count(0)", x.count(0), 50);
            due("sortOf(0, 0)", x.sortOf(0, 0), 8);
            due("word(0, 4)", x.word(0, 4), '\'');
            due("line(0, 0, 0)", x.line(0, 0, 0), 0);
            due("save(0)", x.save(0), 3);
            due("put and fault", typed("_").fault(), 0);
        });
        test("Conventions", "divisions are rounded down", () -> {
            HungStops x = new HungStops();
            x.sort(0, 1, 99, 100);
            due("99 hundredths of 1", x.sortOf(0, 3), 0);
            due("100 hundredths of 1", x.sortOf(0, 4), 1);
            x.sort(0, 19, 99, 95);
            due("18.81", x.sortOf(0, 3), 18);
            due("18.05", x.sortOf(0, 4), 18);
        });
        test("What it is", "an object is used for at most 512 calls: the last ones of them are answered, too", () -> {
            HungStops x = new HungStops();
            for (int call = 1; call <= 510; call++) due("set", x.set(MEASURE, 20 + call % 100), call == 1 ? 80 : 20 + (call - 1) % 100);
            due("the 511th", x.undo(), 5);
            due("the 512th", x.count(0), 20 + 509 % 100);
        });
    }

    private static void settings() {
        String[] names = {"MEASURE", "SPACE", "LOOSE", "HANGS"};
        int[] least = {20, 1, 0, 0};
        int[] greatest = {200, 20, 40, 1};
        int[] first = {80, 6, 12, 1};
        for (int each = 0; each < 4; each++) {
            int setting = each;
            test("Settings", names[setting] + " is " + first[setting] + " at first", () ->
                due("count", new HungStops().count(setting), first[setting]));
            test("Settings", names[setting] + " is " + least[setting] + " at least", () -> {
                refused(BAD_VALUE, EdgesTest::rich, x -> x.set(setting, least[setting] - 1));
                HungStops x = new HungStops();
                due("set to the least", x.set(setting, least[setting]), first[setting]);
                due("count", x.count(setting), least[setting]);
                due("set to 1 less", x.set(setting, least[setting] - 1), BAD_VALUE);
                due("set to the least int", x.set(setting, LEAST_INT), BAD_VALUE);
                due("count", x.count(setting), least[setting]);
            });
            test("Settings", names[setting] + " is " + greatest[setting] + " at most", () -> {
                refused(BAD_VALUE, EdgesTest::rich, x -> x.set(setting, greatest[setting] + 1));
                HungStops x = new HungStops();
                due("set to the greatest", x.set(setting, greatest[setting]), first[setting]);
                due("count", x.count(setting), greatest[setting]);
                due("set to 1 more", x.set(setting, greatest[setting] + 1), BAD_VALUE);
                due("set to the greatest int", x.set(setting, GREATEST_INT), BAD_VALUE);
                due("count", x.count(setting), greatest[setting]);
            });
        }
    }

    private static void face() {
        test("The face", "letters are a to z", () -> {
            HungStops x = with("abcdefghij_klmnopqrst_uvwxyz");
            due("sortOf(0, 5)", x.sortOf(0, 5), 26);
            due("count(6)", x.count(6), 0);
            due("before a", typed("`").fault(), 0);
            due("behind z", typed("{").fault(), 0);
            due("A", typed("A").fault(), 0);
            due("Z", typed("Z").fault(), 0);
        });
        test("The face", "there are 8 sorts: each stop is one of its own", () -> {
            for (int sort = 1; sort < 8; sort++) {
                HungStops x = with("" + SIGNS.charAt(sort));
                for (int other = 0; other < 8; other++) due("sortOf(" + other + ", 5)", x.sortOf(other, 5), other == sort ? 1 : 0);
            }
        });
        test("The face", "at first the width is 8 for letters, 5 for \"-\", and 3 for the others", () -> {
            int[] widths = {8, 3, 3, 3, 3, 5, 3, 3};
            for (int sort = 0; sort < 8; sort++) due("sortOf(" + sort + ", 0)", new HungStops().sortOf(sort, 0), widths[sort]);
        });
        test("The face", "at first the left share is 60 for \"'\", 0 for the others", () -> {
            for (int sort = 0; sort < 8; sort++) due("sortOf(" + sort + ", 1)", new HungStops().sortOf(sort, 1), sort == 6 ? 60 : 0);
        });
        test("The face", "at first the right share is 100, 100, 50, 50, 70, 60 for the stops, 0 for letters and \"!\"", () -> {
            int[] shares = {0, 100, 100, 50, 50, 70, 60, 0};
            for (int sort = 0; sort < 8; sort++) due("sortOf(" + sort + ", 2)", new HungStops().sortOf(sort, 2), shares[sort]);
        });
        test("The face", "by the left share it hangs when it is the first sign of a line, and nowhere else", () -> {
            HungStops x = with("'a'a_'b_'");
            x.sort(6, 10, 50, 0);
            due("first of the first word", x.body(0, 0), 36 - 5);
            due("words inside a line do not hang", x.body(0, 1), 36 + 6 + 18 - 5);
            due("first of the second word", x.body(1, 1), 18 - 5);
            due("the last sign does not hang at the left", x.body(1, 2), 18 + 6 + 10 - 5);
            due("sign behind a letter", with("a'a").body(0, 0), 19);
        });
        test("The face", "by the right share it hangs when it is the last sign of a line, and nowhere else", () -> {
            HungStops x = with("!a!_b!_!c");
            x.sort(7, 10, 0, 50);
            due("last of the first word", x.body(0, 0), 28 - 5);
            due("words inside a line do not hang", x.body(0, 1), 28 + 6 + 18 - 5);
            due("the first sign does not hang at the right", x.body(2, 2), 18);
            due("nor does that of a word inside", x.body(1, 2), 18 + 6 + 18);
        });
        test("The face", "how far it hangs is width * share / 100: at shares of 0 and of 100", () -> {
            HungStops x = with("!");
            x.sort(7, 20, 0, 100);
            due("nothing at the left", x.line(0, 0, 3), 0);
            due("all at the right", x.line(0, 0, 4), 20);
            due("body", x.line(0, 0, 5), 0);
            x.sort(7, 20, 100, 0);
            due("all at the left", x.line(0, 0, 3), 20);
            due("nothing at the right", x.line(0, 0, 4), 0);
            due("body", x.line(0, 0, 5), 0);
        });
        test("The face", "it hangs by 0, if HANGS is 0", () -> {
            HungStops x = with("'a._'b,");
            x.set(HANGS, 0);
            due("left", x.line(0, 0, 3), 0);
            due("right", x.line(0, 0, 4), 0);
            due("body", x.body(0, 1), 14 + 6 + 14);
            x.set(HANGS, 1);
            due("left again", x.line(0, 0, 3), 1);
            due("right again", x.line(0, 0, 4), 3);
            due("body again", x.body(0, 1), 34 - 4);
        });
    }

    private static void wordsAndLines() {
        test("Words, lines", "there is a text of up to 24 words", () -> {
            HungStops x = with(TWENTY_FOUR);
            due("count(4)", x.count(4), 24);
            for (int word = 0; word < 24; word++) due("the word " + word, x.word(word, 4), 'a' + word);
            due("one more", type(x, "y").read(), TOO_MANY);
            due("count(4)", x.count(4), 24);
        });
        test("Words, lines", "each of 1 to 10 signs", () -> {
            HungStops x = with("a_abcdefghij");
            due("one sign", x.word(0, 0), 1);
            due("ten signs", x.word(1, 0), 10);
            due("no sign", typed("a__b").read(), BAD_TEXT);
            due("eleven signs", typed("abcdefghijk").read(), BAD_TEXT);
            due("eleven stops", typed("...........").read(), BAD_TEXT);
        });
        test("Words, lines", "the width of a word is that of its signs, together: the least and the greatest one", () -> {
            HungStops x = with("!_!!!!!!!!!!");
            x.sort(7, 1, 0, 0);
            due("least", x.word(0, 1), 1);
            x.sort(7, 20, 0, 0);
            due("greatest", x.word(1, 1), 200);
        });
        test("Words, lines", "a line has a space of SPACE between two words, none ahead or behind", () -> {
            HungStops x = with("a_b_c");
            x.set(MEASURE, 200);
            for (int space : new int[] {1, 20}) {
                x.set(SPACE, space);
                due("one word", x.body(1, 1), 8);
                due("two words", x.body(0, 1), 16 + space);
                due("three words", x.body(0, 2), 24 + 2 * space);
                due("width of the line", x.line(0, 0, 2), 24 + 2 * space);
            }
        });
        test("Words, lines", "a line of one sign hangs on both sides", () -> {
            HungStops x = with("'");
            due("body at first", x.body(0, 0), 3 - 1 - 1);
            x.sort(6, 20, 30, 45);
            due("left", x.line(0, 0, 3), 6);
            due("right", x.line(0, 0, 4), 9);
            due("width", x.line(0, 0, 2), 20);
            due("body", x.line(0, 0, 5), 5);
        });
        test("Words, lines", "a body can be below 0", () -> {
            HungStops x = with("'");
            x.sort(6, 20, 100, 100);
            due("body", x.body(0, 0), -20);
            due("body of the line", x.line(1, 0, 5), -20);
            due("greatest body", x.lines(0, 4), -20);
            due("it fits", x.line(0, 0, 7), 1);
        });
        test("Words, lines", "a line fits, if its body is at most MEASURE", () -> {
            HungStops x = narrow(10, 9);
            due("body of 20 in 20", x.lines(0, 0), 1);
            due("fits", x.line(0, 0, 7), 1);
            x.set(SPACE, 2);
            due("body of 21 in 20", x.lines(0, 0), 2);
            HungStops one = withWords(10);
            due("80 in 80", one.line(0, 0, 7), 1);
            one.set(MEASURE, 79);
            due("80 in 79", one.line(0, 0, 7), 0);
        });
        test("Words, lines", "it is the body that fits, not the width", () -> {
            HungStops x = with("'abcdefgh.");
            x.set(MEASURE, 66);
            due("70 less 4 in 66", x.line(0, 0, 7), 1);
            x.set(MEASURE, 65);
            due("70 less 4 in 65", x.line(0, 0, 7), 0);
        });
        test("Words, lines", "what is left of a line that fits is MEASURE less its body: 0, and more than MEASURE", () -> {
            HungStops x = withWords(10);
            due("nothing", x.line(0, 0, 6), 0);
            HungStops y = with("'");
            y.sort(6, 20, 100, 100);
            due("more than MEASURE", y.line(0, 0, 6), 100);
        });
    }

    private static void indentedLines() {
        test("Words, lines", "a line looks indented, if more than LOOSE is left of it", () -> {
            HungStops x = narrow(withWords(10, 10));
            x.sort(0, 2, 0, 0);
            x.set(MEASURE, 40);
            x.set(LOOSE, 20);
            due("20 left, LOOSE is 20", x.line(0, 0, 8), 0);
            due("none of the lines", x.lines(0, 2), 0);
            x.set(LOOSE, 19);
            due("20 left, LOOSE is 19", x.line(0, 0, 8), 1);
            due("one of the lines", x.lines(0, 2), 1);
        });
        test("Words, lines", "a line looks indented, with a LOOSE of 0", () -> {
            HungStops x = withWords(10, 10);
            x.set(LOOSE, 0);
            due("nothing is left", x.line(0, 0, 8), 0);
            x.set(MEASURE, 81);
            due("1 is left", x.line(0, 0, 8), 1);
        });
        test("Words, lines", "a line looks indented, if it fits", () -> {
            HungStops x = withWords(10, 10);
            x.set(LOOSE, 0);
            x.set(MEASURE, 20);
            due("60 too long", x.line(0, 0, 8), 0);
            due("lines", x.lines(0, 2), 0);
        });
        test("Words, lines", "a line looks indented, if it is not the last one", () -> {
            HungStops x = withWords(10, 1);
            x.set(LOOSE, 0);
            due("72 left of the last one", x.line(0, 1, 6), 72);
            due("the last one", x.line(0, 1, 8), 0);
            due("the only one", with("a").line(0, 0, 8), 0);
            due("lines", x.lines(1, 2), 0);
            add(x, "abcdefghij");
            due("it is not the last one now", x.line(0, 1, 8), 1);
        });
    }

    private static void greedyWay() {
        test("Breaking", "greedily each line takes as many words as fit", () -> {
            starts(narrow(6, 6, 6, 1), 0, 0, 3);
            starts(narrow(6, 6, 7, 1), 0, 0, 2);
            starts(narrow(6, 5, 7, 1), 0, 0, 3);
        });
        test("Breaking", "greedily each line takes one word at least, which need not fit", () -> {
            HungStops x = withWords(10, 10, 1, 10);
            x.set(MEASURE, 20);
            starts(x, 0, 0, 1, 2, 3);
            int[] fits = {0, 0, 1, 0};
            for (int line = 0; line < 4; line++) due("fits " + line, x.line(0, line, 7), fits[line]);
        });
        test("Breaking", "greedily a word is taken that fits because its last sign hangs", () -> {
            HungStops x = narrow(with("abcdefghij_abcdefghi._a"));
            x.sort(1, 9, 0, 100);
            starts(x, 0, 0, 2);
            x.set(HANGS, 0);
            starts(x, 0, 0, 1);
        });
        test("Breaking", "greedily a word is taken that fits because the first sign of the line hangs", () -> {
            HungStops x = narrow(with("'abcdefghi_abcdefghij"));
            x.sort(6, 2, 50, 0);
            due("body", x.body(0, 1), 21);
            starts(x, 0, 0, 1);
            x.sort(6, 2, 100, 0);
            starts(x, 0, 0);
        });
        test("Breaking", "a text of 24 words that do not fit", () -> {
            HungStops x = withWords(10, 10, 10, 10, 10, 10, 10, 10, 10, 10, 10, 10, 10, 10, 10, 10, 10, 10, 10, 10, 10, 10, 10, 10);
            x.set(MEASURE, 20);
            for (int way = 0; way < 2; way++) {
                due("lines", x.lines(way, 0), 24);
                due("badness", x.lines(way, 1), 240000);
                due("do not fit", x.lines(way, 3), 24);
                due("first word of the last line", x.line(way, 23, 0), 23);
                due("behind it", x.line(way, 24, 0), NO_SUCH);
            }
        });
        test("Breaking", "a text of 24 words in one line", () -> {
            HungStops x = with(TWENTY_FOUR);
            x.sort(0, 1, 0, 0);
            x.set(SPACE, 1);
            x.set(MEASURE, 47);
            for (int way = 0; way < 2; way++) {
                starts(x, way, 0);
                due("body", x.line(way, 0, 5), 47);
                due("badness", x.lines(way, 1), 0);
            }
        });
    }

    private static void bestWay() {
        test("Breaking", "best: each line with more than one word fits, though fewer lines would cost less", () -> {
            HungStops x = withWords(10, 10, 10);
            x.set(MEASURE, 20);
            starts(x, 1, 0, 1, 2);
            due("badness", x.lines(1, 1), 30000);
            HungStops y = narrow(10, 10);
            starts(y, 1, 0, 1);
            due("badness", y.lines(1, 1), 100);
        });
        test("Breaking", "best: a line whose body is MEASURE may have more than one word", () -> {
            HungStops x = narrow(10, 9, 5, 5);
            starts(x, 1, 0, 2);
            due("badness", x.lines(1, 1), 0);
        });
        test("Breaking", "best: the least badness, not what greedily is", () -> {
            HungStops x = narrow(DIFFERS);
            starts(x, 0, 0, 3, 4);
            due("greedily", x.lines(0, 1), 100);
            starts(x, 1, 0, 2, 4);
            due("best", x.lines(1, 1), 50);
        });
        test("Breaking", "best: more lines, if they are less bad", () -> {
            HungStops x = narrow(FEWER_GREEDILY);
            due("lines greedily", x.lines(0, 0), 4);
            due("badness greedily", x.lines(0, 1), 85);
            due("lines in the best way", x.lines(1, 0), 5);
            due("badness in the best way", x.lines(1, 1), 76);
        });
        test("Breaking", "badness: the square of what is left, 0 and 1 of it, too", () -> {
            HungStops x = withWords(10, 10);
            due("nothing left", x.lines(1, 1), 0);
            x.set(MEASURE, 81);
            due("1 left", x.lines(1, 1), 1);
            x.set(MEASURE, 83);
            due("3 left", x.lines(0, 1), 9);
        });
        test("Breaking", "badness: the last line that fits counts nothing", () -> {
            due("the only line", withWords(1).lines(1, 1), 0);
            due("the last line", withWords(10, 1).lines(0, 1), 0);
            due("the last line in the best way", withWords(10, 1).lines(1, 1), 0);
        });
        test("Breaking", "badness: 10000 for each line that does not fit, the last one too", () -> {
            HungStops x = withWords(10);
            x.set(MEASURE, 79);
            due("the only one", x.lines(0, 1), 10000);
            due("in the best way", x.lines(1, 1), 10000);
            HungStops y = withWords(10, 9, 10);
            y.set(MEASURE, 72);
            due("the first and the last one", y.lines(0, 1), 20000);
            due("in the best way", y.lines(1, 1), 20000);
        });
        test("Breaking", "badness: a line that fits can count more than one that does not", () -> {
            HungStops x = withWords(1, 10);
            x.sort(0, 20, 0, 0);
            x.set(MEASURE, 200);
            for (int way = 0; way < 2; way++) due("180 left", x.lines(way, 1), 32400);
            HungStops y = with("'_abcdefghij");
            y.sort(6, 20, 100, 100);
            y.sort(0, 20, 0, 0);
            y.set(MEASURE, 200);
            due("220 left", y.lines(0, 1), 48400);
            due("220 left in the best way", y.lines(1, 1), 48400);
        });
        test("Breaking", "of several the one whose first line has the most words", () -> {
            HungStops x = narrow(10, 5, 10, 10);
            x.sort(0, 2, 0, 0);
            x.set(MEASURE, 40);
            starts(x, 1, 0, 2, 3);
            due("badness", x.lines(1, 1), 81 + 400);
        });
        test("Breaking", "of these the one whose second line has", () -> {
            HungStops x = narrow(10, 10, 5, 10, 10);
            x.sort(0, 2, 0, 0);
            x.set(MEASURE, 40);
            starts(x, 1, 0, 1, 3, 4);
            due("badness", x.lines(1, 1), 400 + 81 + 400);
        });
        test("Breaking", "and so on: the one whose third line has", () -> {
            HungStops x = narrow(10, 10, 10, 5, 10, 10);
            x.sort(0, 2, 0, 0);
            x.set(MEASURE, 40);
            starts(x, 1, 0, 1, 2, 4, 5);
            due("badness", x.lines(1, 1), 400 + 400 + 81 + 400);
        });
    }

    private static void texts() {
        test("Texts", "the pad is a text of at most 60 characters", () -> {
            HungStops x = typed(SIXTY);
            due("count(8)", x.count(8), 60);
            due("one more", x.put('a'), TOO_MANY);
            due("read", x.read(), 6);
            due("the last sign", x.word(5, 8), 'e');
        });
        test("Texts", "the pad is words: a character in it that is none of a text may be put", () -> {
            HungStops x = typed("A?~!\"");
            due("count(8)", x.count(8), 5);
            due("fault", x.fault(), 0);
        });
        test("Texts", "a word has 1 sign at least", () -> {
            due("ahead", typed("_a").fault(), 0);
            due("between", typed("a__a").fault(), 2);
            due("behind", typed("a_").fault(), 2);
        });
        test("Texts", "a word has 10 signs at most", () -> {
            due("10", typed(letters(10)).fault(), NONE);
            due("11", typed(letters(10) + "a").fault(), 10);
            due("10 and 10", typed(letters(10) + "_" + letters(10)).fault(), NONE);
            due("10 and 11", typed(letters(10) + "_" + letters(10) + "!").fault(), 21);
            due("10 stops", typed(".,;:-'!.,;").fault(), NONE);
        });
        test("Texts", "the fault is the index of the first character that cannot stand at its place", () -> {
            due("the first of three", typed("ab?_A__").fault(), 2);
            due("the second one", typed("a_B").fault(), 2);
            due("the last one", typed("abc_d#").fault(), 5);
            for (int code = 33; code <= 126; code++) {
                boolean sign = code >= 'a' && code <= 'z' || SIGNS.indexOf(code) >= 0;
                HungStops x = typed("a");
                x.put(code);
                due("fault with the code " + code, x.fault(), sign ? NONE : code == '_' ? 2 : 1);
            }
        });
        test("Texts", "the fault is the length of the text, if there is none and the text ends too early", () -> {
            due("behind one word", typed("abc_").fault(), 4);
            due("behind ten signs", typed(letters(10) + "_").fault(), 11);
            due("at the end of a full pad", typed(SIXTY.substring(0, 59) + "_").fault(), 60);
        });
        test("Texts", "also if it is empty", () -> {
            due("a new pad", new HungStops().fault(), 0);
            HungStops x = typed("abc");
            x.wipe();
            due("a wiped pad", x.fault(), 0);
            HungStops y = with("abc");
            due("a pad that was read", y.fault(), 0);
        });
    }

    // ---- promises 1 to 7: a new object, changes

    private static void aNewObject() {
        test("Promise 1", "creates an empty text", () -> {
            HungStops x = new HungStops();
            for (int what = 4; what < 7; what++) due("count(" + what + ")", x.count(what), 0);
            due("word(0, 0)", x.word(0, 0), NO_SUCH);
            for (int sort = 0; sort < 8; sort++) due("sortOf(" + sort + ", 5)", x.sortOf(sort, 5), 0);
            due("lines(0, 0)", x.lines(0, 0), 0);
            due("lines(1, 0)", x.lines(1, 0), 0);
        });
        test("Promise 1", "a new object has an empty pad, no history and empty slots", () -> {
            HungStops x = new HungStops();
            due("count(8)", x.count(8), 0);
            due("count(9)", x.count(9), 0);
            due("undo()", x.undo(), NOT_POSSIBLE);
            due("restore(0)", x.restore(0), NOT_POSSIBLE);
            due("restore(1)", x.restore(1), NOT_POSSIBLE);
        });
        test("Promise 1", "a new object has nothing of those before it", () -> {
            String first = seen(new HungStops());
            HungStops x = rich();
            x.save(0);
            due("restore(1) of another", new HungStops().restore(1), NOT_POSSIBLE);
            due("restore(0) of another", new HungStops().restore(0), NOT_POSSIBLE);
            dueText("what another holds", seen(new HungStops()), first);
        });
    }

    private static void set() {
        test("Promise 2", "returns the previous value", () -> {
            HungStops x = new HungStops();
            due("set(MEASURE, 100)", x.set(MEASURE, 100), 80);
            due("set(MEASURE, 100)", x.set(MEASURE, 100), 100);
            due("set(MEASURE, 20)", x.set(MEASURE, 20), 100);
            due("count(0)", x.count(0), 20);
        });
        test("Promise 2", "changes this setting alone", () -> {
            int[] values = {33, 9, 21, 0};
            for (int setting = 0; setting < 4; setting++) {
                HungStops x = new HungStops();
                x.set(setting, values[setting]);
                int[] due = {80, 6, 12, 1};
                due[setting] = values[setting];
                for (int what = 0; what < 4; what++) due("count(" + what + ")", x.count(what), due[what]);
            }
        });
        test("Promise 2", "BAD_VALUE if there is no such setting", () -> {
            for (int setting : new int[] {-1, 4, LEAST_INT, GREATEST_INT}) {
                due("set(" + setting + ", 1)", new HungStops().set(setting, 1), BAD_VALUE);
                due("set(" + setting + ", 20)", new HungStops().set(setting, 20), BAD_VALUE);
            }
            refused(BAD_VALUE, EdgesTest::rich, x -> x.set(4, 20));
            refused(BAD_VALUE, EdgesTest::rich, x -> x.set(-1, 20));
        });
        test("Promise 2", "BAD_VALUE if value is out of its range: each setting has its own", () -> {
            HungStops x = new HungStops();
            due("MEASURE 1", x.set(MEASURE, 1), BAD_VALUE);
            due("SPACE 40", x.set(SPACE, 40), BAD_VALUE);
            due("SPACE 0", x.set(SPACE, 0), BAD_VALUE);
            due("LOOSE 80", x.set(LOOSE, 80), BAD_VALUE);
            due("HANGS 20", x.set(HANGS, 20), BAD_VALUE);
        });
        test("Promise 2", "this is a change, also to the value that it has", () -> {
            isChange(EdgesTest::rich, x -> x.set(SPACE, 20));
            isChange(EdgesTest::rich, x -> x.set(SPACE, 3));
        });
    }

    private static void sort() {
        test("Promise 3", "returns the width before", () -> {
            HungStops x = new HungStops();
            due("sort(0, 9, 0, 0)", x.sort(0, 9, 0, 0), 8);
            due("sort(0, 9, 0, 0)", x.sort(0, 9, 0, 0), 9);
            due("sort(5, 1, 0, 0)", x.sort(5, 1, 0, 0), 5);
        });
        test("Promise 3", "changes this sort alone", () -> {
            for (int sort = 0; sort < 8; sort++) {
                HungStops x = new HungStops();
                HungStops before = new HungStops();
                x.sort(sort, 11, 12, 13);
                for (int other = 0; other < 8; other++) {
                    for (int what = 0; what < 3; what++) {
                        due("sortOf(" + other + ", " + what + ")", x.sortOf(other, what), other == sort ? 11 + what : before.sortOf(other, what));
                    }
                }
            }
        });
        test("Promise 3", "width: 1 to 20", () -> {
            HungStops x = new HungStops();
            due("20", x.sort(1, 20, 5, 6), 3);
            due("1", x.sort(1, 1, 5, 6), 20);
            due("width", x.sortOf(1, 0), 1);
            for (int width : new int[] {0, 21, -1, LEAST_INT, GREATEST_INT}) due("width of " + width, x.sort(1, width, 5, 6), BAD_VALUE);
            refused(BAD_VALUE, EdgesTest::rich, y -> y.sort(0, 0, 5, 6));
            refused(BAD_VALUE, EdgesTest::rich, y -> y.sort(0, 21, 5, 6));
        });
        test("Promise 3", "left: 0 to 100", () -> {
            HungStops x = new HungStops();
            due("100", x.sort(1, 3, 100, 6), 3);
            due("left share", x.sortOf(1, 1), 100);
            due("0", x.sort(1, 3, 0, 6), 3);
            due("left share", x.sortOf(1, 1), 0);
            for (int left : new int[] {-1, 101, LEAST_INT, GREATEST_INT}) due("left of " + left, x.sort(1, 3, left, 6), BAD_VALUE);
            refused(BAD_VALUE, EdgesTest::rich, y -> y.sort(0, 5, -1, 6));
            refused(BAD_VALUE, EdgesTest::rich, y -> y.sort(0, 5, 101, 6));
        });
        test("Promise 3", "right: 0 to 100", () -> {
            HungStops x = new HungStops();
            due("100", x.sort(3, 3, 6, 100), 3);
            due("right share", x.sortOf(3, 2), 100);
            due("0", x.sort(3, 3, 6, 0), 3);
            due("right share", x.sortOf(3, 2), 0);
            for (int right : new int[] {-1, 101, LEAST_INT, GREATEST_INT}) due("right of " + right, x.sort(1, 3, 6, right), BAD_VALUE);
            refused(BAD_VALUE, EdgesTest::rich, y -> y.sort(0, 5, 6, -1));
            refused(BAD_VALUE, EdgesTest::rich, y -> y.sort(0, 5, 6, 101));
        });
        test("Promise 3", "NO_SUCH if there is no such sort", () -> {
            for (int sort : new int[] {-1, 8, LEAST_INT, GREATEST_INT}) due("sort " + sort, new HungStops().sort(sort, 5, 5, 5), NO_SUCH);
            refused(NO_SUCH, EdgesTest::rich, x -> x.sort(8, 5, 5, 5));
            refused(NO_SUCH, EdgesTest::rich, x -> x.sort(-1, 5, 5, 5));
            due("the last sort", new HungStops().sort(7, 5, 5, 5), 3);
        });
        test("Promise 3", "this is a change, also if nothing is different then", () -> {
            isChange(EdgesTest::rich, x -> x.sort(0, 20, 100, 100));
            isChange(EdgesTest::rich, x -> x.sort(0, 8, 0, 0));
        });
    }

    private static void read() {
        test("Promise 4", "adds the words of the pad at the end of the text", () -> {
            HungStops x = add(with("ab_c"), "d!_'");
            String[] words = {"ab", "c", "d!", "'"};
            for (int word = 0; word < 4; word++) dueText("word " + word, textOf(x, word), words[word]);
            due("count(4)", x.count(4), 4);
        });
        test("Promise 4", "empties the pad", () -> {
            HungStops x = with("ab_c");
            due("count(8)", x.count(8), 0);
            due("fault()", x.fault(), 0);
            due("read again", x.read(), BAD_TEXT);
            due("put", x.put('d'), 1);
        });
        test("Promise 4", "returns how many words there are then", () -> {
            HungStops x = new HungStops();
            due("one word", type(x, "ab").read(), 1);
            due("two more", type(x, "c_d").read(), 3);
        });
        test("Promise 4", "BAD_TEXT if the pad has a fault: it is empty", () ->
            refused(BAD_TEXT, () -> with("ab_c"), HungStops::read));
        test("Promise 4", "BAD_TEXT if the pad has a fault: a character that cannot stand at its place", () -> {
            refused(BAD_TEXT, () -> typed("ab?"), HungStops::read);
            refused(BAD_TEXT, () -> typed("a__b"), HungStops::read);
            refused(BAD_TEXT, () -> typed("abcdefghijk"), HungStops::read);
        });
        test("Promise 4", "BAD_TEXT if the pad has a fault: it ends too early", () ->
            refused(BAD_TEXT, () -> type(rich(), "_"), HungStops::read));
        test("Promise 4", "TOO_MANY if there would be more than 24", () -> {
            refused(TOO_MANY, () -> type(full(), "y"), HungStops::read);
            refused(TOO_MANY, () -> typed(TWENTY_FOUR + "_y"), HungStops::read);
            due("24 at once", typed(TWENTY_FOUR).read(), 24);
            HungStops x = with("a_b_c_d_e_f_g_h_i_j_k_l_m_n_o_p_q_r_s_t_u_v");
            due("22 and 3", type(x, "w_x_y").read(), TOO_MANY);
            x.wipe();
            due("22 and 2", type(x, "w_x").read(), 24);
        });
        test("Promise 4", "this is a change", () -> isChange(EdgesTest::rich, HungStops::read));
    }

    private static void drop() {
        test("Promise 5", "takes a word out; those behind it get numbers that are 1 less: the first, a middle and the last one", () -> {
            String[] words = {"ab", "c", "d!", "'"};
            for (int word = 0; word < 4; word++) {
                HungStops x = with("ab_c_d!_'");
                x.drop(word);
                due("count(4)", x.count(4), 3);
                for (int left = 0; left < 3; left++) dueText("word " + left, textOf(x, left), words[left < word ? left : left + 1]);
                due("the number of the last one before", x.word(3, 0), NO_SUCH);
            }
        });
        test("Promise 5", "takes a word out of 24", () -> {
            HungStops x = with(TWENTY_FOUR);
            due("drop(23)", x.drop(23), 8);
            due("drop(0)", x.drop(0), 8);
            due("the first", x.word(0, 4), 'b');
            due("the last", x.word(21, 4), 'w');
            due("there is room for two again", type(x, "y_z").read(), 24);
        });
        test("Promise 5", "returns its width", () -> {
            HungStops x = with("ab'_'");
            due("without what hangs", x.drop(1), 3);
            x.sort(6, 20, 0, 0);
            due("of the face that there is", x.drop(0), 36);
        });
        test("Promise 5", "NO_SUCH if there is no such word", () -> {
            for (int word : new int[] {-1, 3, 24, LEAST_INT, GREATEST_INT}) due("drop(" + word + ")", rich().drop(word), NO_SUCH);
            refused(NO_SUCH, EdgesTest::rich, x -> x.drop(3));
            refused(NO_SUCH, EdgesTest::rich, x -> x.drop(-1));
            due("of an empty text", new HungStops().drop(0), NO_SUCH);
            due("of 24 words", full().drop(24), NO_SUCH);
        });
        test("Promise 5", "the only word can be taken out", () -> {
            HungStops x = with("ab");
            due("drop(0)", x.drop(0), 16);
            due("count(4)", x.count(4), 0);
            due("lines(0, 0)", x.lines(0, 0), 0);
        });
        test("Promise 5", "this is a change", () -> {
            isChange(EdgesTest::rich, x -> x.drop(2));
            isChange(EdgesTest::rich, x -> x.drop(0));
        });
    }

    private static void swap() {
        test("Promise 6", "exchanges two words: side by side, and the first and the last one, either way round", () -> {
            int[][] pairs = {{0, 1}, {1, 0}, {2, 3}, {0, 3}, {3, 0}};
            for (int[] pair : pairs) {
                String[] words = {"ab", "c", "abcdefghij", "'"};
                HungStops x = with("ab_c_abcdefghij_'");
                x.swap(pair[0], pair[1]);
                String kept = words[pair[0]];
                words[pair[0]] = words[pair[1]];
                words[pair[1]] = kept;
                for (int word = 0; word < 4; word++) dueText("word " + word, textOf(x, word), words[word]);
            }
        });
        test("Promise 6", "returns how many lines there are then", () -> {
            HungStops x = narrow(10, 10, 9, 9);
            due("before", x.lines(0, 0), 3);
            due("swap(0, 3)", x.swap(0, 3), 2);
            due("swap(3, 0)", x.swap(3, 0), 3);
        });
        test("Promise 6", "returns how many lines there are greedily, not in the best way", () -> {
            HungStops x = narrow(FEWER_GREEDILY);
            x.swap(0, 1);
            due("swap(1, 0)", x.swap(1, 0), 4);
            due("lines(1, 0)", x.lines(1, 0), 5);
        });
        test("Promise 6", "NO_SUCH if there is no such word: either of them", () -> {
            for (int word : new int[] {-1, 3, LEAST_INT, GREATEST_INT}) {
                due("swap(" + word + ", 0)", rich().swap(word, 0), NO_SUCH);
                due("swap(0, " + word + ")", rich().swap(0, word), NO_SUCH);
            }
            refused(NO_SUCH, EdgesTest::rich, x -> x.swap(3, 0));
            refused(NO_SUCH, EdgesTest::rich, x -> x.swap(0, 3));
            due("of an empty text", new HungStops().swap(0, 1), NO_SUCH);
            due("of an empty text, the same", new HungStops().swap(0, 0), NO_SUCH);
        });
        test("Promise 6", "BAD_VALUE if both are the same", () -> {
            for (int word = 0; word < 3; word++) due("swap", rich().swap(word, word), BAD_VALUE);
            refused(BAD_VALUE, EdgesTest::rich, x -> x.swap(1, 1));
        });
        test("Promise 6", "this is a change, also of two words that are alike", () -> {
            isChange(EdgesTest::rich, x -> x.swap(0, 2));
            isChange(() -> with("ab_ab"), x -> x.swap(0, 1));
        });
    }

    private static void clear() {
        test("Promise 7", "takes all words out", () -> {
            HungStops x = full();
            x.clear();
            for (int what = 4; what < 7; what++) due("count(" + what + ")", x.count(what), 0);
            due("word(0, 0)", x.word(0, 0), NO_SUCH);
            due("lines(0, 0)", x.lines(0, 0), 0);
            due("there is room for 24 again", type(x, TWENTY_FOUR).read(), 24);
        });
        test("Promise 7", "returns how many there were: none, and 24", () -> {
            due("none", new HungStops().clear(), 0);
            due("24", full().clear(), 24);
        });
        test("Promise 7", "takes out nothing else", () -> {
            HungStops x = rich();
            x.clear();
            due("MEASURE", x.count(0), 50);
            due("a width", x.sortOf(2, 0), 7);
            due("the pad", x.count(8), 5);
            due("the slot", x.restore(1), 4);
        });
        test("Promise 7", "this is a change, also without words", () -> {
            isChange(EdgesTest::rich, HungStops::clear);
            isChange(HungStops::new, HungStops::clear);
        });
    }

    // ---- promises 8 to 12: what there is

    private static void sortOf() {
        test("Promise 8", "what: 0 its width, 1 its left share, 2 its right share", () -> {
            HungStops x = new HungStops();
            x.sort(7, 20, 0, 100);
            due("0", x.sortOf(7, 0), 20);
            due("1", x.sortOf(7, 1), 0);
            due("2", x.sortOf(7, 2), 100);
        });
        test("Promise 8", "what: 3 how far it hangs at the left edge, 4 at the right one", () -> {
            int[] lefts = {0, 0, 0, 0, 0, 0, 1, 0};
            int[] rights = {0, 3, 3, 1, 1, 3, 1, 0};
            HungStops x = new HungStops();
            for (int sort = 0; sort < 8; sort++) {
                due("left of " + sort, x.sortOf(sort, 3), lefts[sort]);
                due("right of " + sort, x.sortOf(sort, 4), rights[sort]);
            }
            x.set(HANGS, 0);
            for (int sort = 0; sort < 8; sort++) {
                due("left of " + sort, x.sortOf(sort, 3), 0);
                due("right of " + sort, x.sortOf(sort, 4), 0);
            }
            due("the shares stay", x.sortOf(6, 1), 60);
        });
        test("Promise 8", "what: 5 how often it is in the text: not at all, and all of 24 words", () -> {
            HungStops x = with("!!!!!!!!!!");
            due("none", x.sortOf(0, 5), 0);
            due("ten", x.sortOf(7, 5), 10);
            x.clear();
            due("none", x.sortOf(7, 5), 0);
            due("24", full().sortOf(0, 5), 24);
            due("those of the pad do not count", typed("a").sortOf(0, 5), 0);
        });
        test("Promise 8", "NO_SUCH if there is no such sort", () -> {
            for (int sort : new int[] {-1, 8, LEAST_INT, GREATEST_INT}) {
                for (int what = 0; what < 6; what++) due("sortOf(" + sort + ", " + what + ")", new HungStops().sortOf(sort, what), NO_SUCH);
            }
        });
        test("Promise 8", "BAD_VALUE if what is out of range", () -> {
            for (int what : new int[] {-1, 6, LEAST_INT, GREATEST_INT}) due("sortOf(0, " + what + ")", rich().sortOf(0, what), BAD_VALUE);
        });
        test("Promise 8", "nothing changes", () -> {
            for (int each = -1; each <= 6; each++) {
                int what = each;
                changesNothing("sortOf(6, " + what + ")", EdgesTest::rich, x -> x.sortOf(6, what));
            }
        });
    }

    private static void word() {
        test("Promise 9", "what: 0 its signs, how many, 1 its width", () -> {
            HungStops x = with("'_ab!_abcdefghij");
            due("one sign", x.word(0, 0), 1);
            due("three signs", x.word(1, 0), 3);
            due("ten signs", x.word(2, 0), 10);
            due("width of one sign", x.word(0, 1), 3);
            due("width of three signs", x.word(1, 1), 19);
            due("width of ten signs", x.word(2, 1), 80);
        });
        test("Promise 9", "what: 2 the line in which it is, greedily", () -> {
            HungStops x = narrow(DIFFERS);
            int[] lines = {0, 0, 0, 1, 2};
            for (int word = 0; word < 5; word++) due("word(" + word + ", 2)", x.word(word, 2), lines[word]);
        });
        test("Promise 9", "what: 3 the line in which it is in the best way", () -> {
            HungStops x = narrow(DIFFERS);
            int[] lines = {0, 0, 1, 1, 2};
            for (int word = 0; word < 5; word++) due("word(" + word + ", 3)", x.word(word, 3), lines[word]);
        });
        test("Promise 9", "what: 2 and 3 of 24 words, each in a line of its own", () -> {
            HungStops x = with(TWENTY_FOUR);
            x.sort(0, 20, 0, 0);
            x.set(MEASURE, 20);
            for (int word = 0; word < 24; word++) {
                due("word(" + word + ", 2)", x.word(word, 2), word);
                due("word(" + word + ", 3)", x.word(word, 3), word);
            }
        });
        test("Promise 9", "what: 4 and more the codes of its signs: the first and the last ones", () -> {
            HungStops x = with("az.,;:-'!q_!");
            String signs = "az.,;:-'!q";
            for (int sign = 0; sign < 10; sign++) due("word(0, " + (4 + sign) + ")", x.word(0, 4 + sign), signs.charAt(sign));
            due("word(1, 4)", x.word(1, 4), '!');
        });
        test("Promise 9", "NONE if it has not so many signs", () -> {
            HungStops x = with("a_abcdefghij_ab");
            due("word(0, 5)", x.word(0, 5), NONE);
            due("word(1, 14)", x.word(1, 14), NONE);
            due("word(2, 6)", x.word(2, 6), NONE);
            due("word(2, 1000)", x.word(2, 1000), NONE);
            due("word(2, GREATEST_INT)", x.word(2, GREATEST_INT), NONE);
            x.drop(1);
            due("a shorter word at the place of a longer one", x.word(1, 6), NONE);
        });
        test("Promise 9", "NO_SUCH if there is no such word", () -> {
            for (int word : new int[] {-1, 3, LEAST_INT, GREATEST_INT}) {
                for (int what = 0; what < 6; what++) due("word(" + word + ", " + what + ")", rich().word(word, what), NO_SUCH);
            }
            due("of an empty text", new HungStops().word(0, 0), NO_SUCH);
            due("of 24", full().word(24, 0), NO_SUCH);
        });
        test("Promise 9", "BAD_VALUE if what is below 0", () -> {
            due("word(0, -1)", rich().word(0, -1), BAD_VALUE);
            due("word(0, LEAST_INT)", rich().word(0, LEAST_INT), BAD_VALUE);
            due("word(0, LEAST_INT + 3)", rich().word(0, LEAST_INT + 3), BAD_VALUE);
        });
        test("Promise 9", "nothing changes", () -> {
            for (int each = -1; each <= 9; each++) {
                int what = each;
                changesNothing("word(0, " + what + ")", EdgesTest::rich, x -> x.word(0, what));
            }
        });
    }

    private static void line() {
        test("Promise 10", "what: 0 to 8, of a line that fits, of one that does not, and of the last one", () -> {
            // The widths are 19, 19, 80, 24 and 21.
            HungStops x = with("'ab_cd,_abcdefghij_abc_ab-");
            x.set(MEASURE, 60);
            int[][] lines = {{0, 2, 44, 1, 3, 40, 20, 1, 1}, {2, 1, 80, 0, 0, 80, NONE, 0, 0}, {3, 2, 51, 0, 3, 48, 12, 1, 0}};
            for (int way = 0; way < 2; way++) {
                for (int line = 0; line < 3; line++) {
                    for (int what = 0; what < 9; what++) {
                        due("line(" + way + ", " + line + ", " + what + ")", x.line(way, line, what), lines[line][what]);
                    }
                }
            }
        });
        test("Promise 10", "way: 0 or 1, which differ", () -> {
            HungStops x = narrow(DIFFERS);
            int[][] second = {{3, 1, 10, 0, 0, 10, 10, 1, 0}, {2, 2, 15, 0, 0, 15, 5, 1, 0}};
            for (int way = 0; way < 2; way++) {
                for (int what = 0; what < 9; what++) due("line(" + way + ", 1, " + what + ")", x.line(way, 1, what), second[way][what]);
            }
        });
        test("Promise 10", "what: 6 what is left of it, NONE if it does not fit", () -> {
            HungStops x = withWords(10, 10);
            for (int way = 0; way < 2; way++) {
                x.set(MEASURE, 80);
                due("nothing is left", x.line(way, 0, 6), 0);
                x.set(MEASURE, 81);
                due("1 is left of the last one", x.line(way, 1, 6), 1);
                x.set(MEASURE, 79);
                due("it does not fit", x.line(way, 0, 6), NONE);
                due("the last one does not, either", x.line(way, 1, 6), NONE);
            }
        });
        test("Promise 10", "BAD_VALUE if way is out of range", () -> {
            for (int way : new int[] {-1, 2, LEAST_INT, GREATEST_INT}) due("line(" + way + ", 0, 0)", rich().line(way, 0, 0), BAD_VALUE);
        });
        test("Promise 10", "BAD_VALUE if what is out of range", () -> {
            for (int what : new int[] {-1, 9, LEAST_INT, GREATEST_INT}) {
                due("line(0, 0, " + what + ")", rich().line(0, 0, what), BAD_VALUE);
                due("line(1, 0, " + what + ")", rich().line(1, 0, what), BAD_VALUE);
            }
        });
        test("Promise 10", "NO_SUCH if there is no such line", () -> {
            HungStops x = narrow(DIFFERS);
            for (int line : new int[] {-1, 3, LEAST_INT, GREATEST_INT}) {
                for (int way = 0; way < 2; way++) {
                    for (int what = 0; what < 9; what++) due("line(" + way + ", " + line + ", " + what + ")", x.line(way, line, what), NO_SUCH);
                }
            }
            due("of an empty text", new HungStops().line(0, 0, 0), NO_SUCH);
            due("of an empty text in the best way", new HungStops().line(1, 0, 0), NO_SUCH);
        });
        test("Promise 10", "NO_SUCH if there is no such line in this way", () -> {
            HungStops x = narrow(FEWER_GREEDILY);
            due("line(0, 4, 0)", x.line(0, 4, 0), NO_SUCH);
            due("line(1, 4, 1)", x.line(1, 4, 1), x.count(4) - x.line(1, 4, 0));
            due("line(1, 5, 0)", x.line(1, 5, 0), NO_SUCH);
        });
        test("Promise 10", "nothing changes", () -> {
            for (int each = -1; each <= 9; each++) {
                int what = each;
                changesNothing("line(0, 0, " + what + ")", EdgesTest::rich, x -> x.line(0, 0, what));
                changesNothing("line(1, 0, " + what + ")", EdgesTest::rich, x -> x.line(1, 0, what));
            }
        });
    }

    private static void lines() {
        test("Promise 11", "what: 0 to 3 are 0 without words", () -> {
            for (int way = 0; way < 2; way++) {
                for (int what = 0; what < 4; what++) due("lines(" + way + ", " + what + ")", new HungStops().lines(way, what), 0);
            }
        });
        test("Promise 11", "what: 0 to 4, in ways that differ", () -> {
            HungStops x = narrow(DIFFERS);
            x.set(LOOSE, 4);
            int[][] due = {{3, 100, 1, 0, 20}, {3, 50, 2, 0, 15}};
            for (int way = 0; way < 2; way++) {
                for (int what = 0; what < 5; what++) due("lines(" + way + ", " + what + ")", x.lines(way, what), due[way][what]);
            }
        });
        test("Promise 11", "what: 3 lines that do not fit, the last one too", () -> {
            HungStops x = withWords(10, 2, 10);
            x.set(MEASURE, 79);
            for (int way = 0; way < 2; way++) due("two", x.lines(way, 3), 2);
            x.set(MEASURE, 80);
            for (int way = 0; way < 2; way++) due("none", x.lines(way, 3), 0);
        });
        test("Promise 11", "what: 4 the greatest body, of the first, a middle and the last line", () -> {
            due("the first", withWords(10, 9, 8).lines(0, 4), 80);
            due("a middle one", withWords(9, 10, 8).lines(0, 4), 80);
            due("the last", withWords(8, 9, 10).lines(1, 4), 80);
        });
        test("Promise 11", "what: 4 the greatest body, where all are below 0", () -> {
            HungStops x = with("'_'");
            x.sort(6, 20, 100, 95);
            x.set(SPACE, 20);
            x.set(MEASURE, 20);
            due("lines", x.lines(0, 0), 2);
            due("greatest body", x.lines(0, 4), -19);
        });
        test("Promise 11", "what: 4 NONE without lines", () -> {
            due("lines(0, 4)", new HungStops().lines(0, 4), NONE);
            due("lines(1, 4)", new HungStops().lines(1, 4), NONE);
            HungStops x = full();
            x.clear();
            due("of a cleared text", x.lines(0, 4), NONE);
            due("of a cleared text in the best way", x.lines(1, 4), NONE);
        });
        test("Promise 11", "BAD_VALUE if way is out of range", () -> {
            for (int way : new int[] {-1, 2, LEAST_INT, GREATEST_INT}) {
                for (int what = 0; what < 5; what++) due("lines(" + way + ", " + what + ")", rich().lines(way, what), BAD_VALUE);
            }
        });
        test("Promise 11", "BAD_VALUE if what is out of range", () -> {
            for (int what : new int[] {-1, 5, LEAST_INT, GREATEST_INT}) {
                due("lines(0, " + what + ")", rich().lines(0, what), BAD_VALUE);
                due("lines(1, " + what + ")", rich().lines(1, what), BAD_VALUE);
            }
        });
        test("Promise 11", "nothing changes", () -> {
            for (int each = -1; each <= 5; each++) {
                int what = each;
                changesNothing("lines(0, " + what + ")", EdgesTest::rich, x -> x.lines(0, what));
                changesNothing("lines(1, " + what + ")", EdgesTest::rich, x -> x.lines(1, what));
            }
        });
    }

    private static void count() {
        test("Promise 12", "what: 0 to 3 the settings", () -> {
            HungStops x = new HungStops();
            int[] values = {200, 20, 40, 0};
            for (int setting = 0; setting < 4; setting++) x.set(setting, values[setting]);
            for (int setting = 0; setting < 4; setting++) due("count(" + setting + ")", x.count(setting), values[setting]);
        });
        test("Promise 12", "what: 4 words, 5 signs, 6 stops: none, and as many as there can be", () -> {
            HungStops x = new HungStops();
            for (int what = 4; what < 7; what++) due("count(" + what + ")", x.count(what), 0);
            for (int word = 0; word < 24; word++) add(x, word < 12 ? "!!!!!!!!!!" : "abcdefghij");
            due("words", x.count(4), 24);
            due("signs", x.count(5), 240);
            due("stops", x.count(6), 120);
        });
        test("Promise 12", "what: 6 stops are all signs but letters", () -> {
            due("each once", with("a.z,;b:-'!").count(6), 7);
            due("none", with("az").count(6), 0);
        });
        test("Promise 12", "what: 7 whether both ways break the text alike", () -> {
            HungStops x = narrow(DIFFERS);
            due("as many lines, other words", x.count(7), 0);
            due("more lines", narrow(FEWER_GREEDILY).count(7), 0);
            x.set(MEASURE, 200);
            due("one line", x.count(7), 1);
            due("two lines alike", narrow(10, 10).count(7), 1);
        });
        test("Promise 12", "what: 7 is 1 without words", () -> {
            due("a new object", new HungStops().count(7), 1);
            HungStops x = narrow(DIFFERS);
            x.clear();
            due("a cleared text", x.count(7), 1);
        });
        test("Promise 12", "what: 8 the length of the pad: 0, 1 and 60", () -> {
            HungStops x = new HungStops();
            due("0", x.count(8), 0);
            x.put('?');
            due("1", x.count(8), 1);
            due("60", typed(SIXTY).count(8), 60);
        });
        test("Promise 12", "what: 9 how many changes can be undone: 0 to 6", () -> {
            HungStops x = new HungStops();
            for (int changes = 0; changes < 10; changes++) {
                due("count(9)", x.count(9), Math.min(6, changes));
                x.clear();
            }
        });
        test("Promise 12", "BAD_VALUE if what is out of range", () -> {
            for (int what : new int[] {-1, 10, LEAST_INT, GREATEST_INT}) due("count(" + what + ")", rich().count(what), BAD_VALUE);
        });
        test("Promise 12", "nothing changes", () -> {
            for (int each = -1; each <= 10; each++) {
                int what = each;
                changesNothing("count(" + what + ")", EdgesTest::rich, x -> x.count(what));
            }
        });
    }

    // ---- promises 13 to 16: what if

    private static void body() {
        test("Promise 13", "tells the body of one word, from and to being the same", () -> {
            HungStops x = with("'ab_cd,_ef-");
            due("body(0, 0)", x.body(0, 0), 18);
            due("body(1, 1)", x.body(1, 1), 16);
            due("body(2, 2)", x.body(2, 2), 18);
        });
        test("Promise 13", "tells the body that the words would have, though they do not fit in a line", () -> {
            HungStops x = with("'ab_cd,_ef-");
            x.set(MEASURE, 20);
            due("body(0, 2)", x.body(0, 2), 19 + 6 + 19 + 6 + 21 - 1 - 3);
            HungStops all = new HungStops();
            for (int word = 0; word < 24; word++) add(all, "abcdefghij");
            all.sort(0, 20, 0, 0);
            all.set(SPACE, 20);
            due("body(0, 23)", all.body(0, 23), 24 * 200 + 23 * 20);
        });
        test("Promise 13", "NO_SUCH if there is no such word: from", () -> {
            for (int from : new int[] {-1, LEAST_INT, 3, GREATEST_INT}) due("body(" + from + ", 2)", rich().body(from, 2), NO_SUCH);
        });
        test("Promise 13", "NO_SUCH if there is no such word: to", () -> {
            for (int to : new int[] {-1, LEAST_INT, 3, GREATEST_INT}) due("body(0, " + to + ")", rich().body(0, to), NO_SUCH);
            due("both", rich().body(3, 3), NO_SUCH);
            due("both below 0", rich().body(-1, -1), NO_SUCH);
            due("of an empty text", new HungStops().body(0, 0), NO_SUCH);
        });
        test("Promise 13", "NO_SUCH if to is below from", () -> {
            due("body(1, 0)", rich().body(1, 0), NO_SUCH);
            due("body(2, 1)", rich().body(2, 1), NO_SUCH);
            due("body(2, 0)", rich().body(2, 0), NO_SUCH);
        });
        test("Promise 13", "nothing changes", () -> {
            changesNothing("body(0, 2)", EdgesTest::rich, x -> x.body(0, 2));
            changesNothing("body(2, 0)", EdgesTest::rich, x -> x.body(2, 0));
        });
    }

    private static void leastMeasure() {
        test("Promise 14", "finds the least MEASURE: just that body, and no unit less", () -> {
            HungStops x = with("ab_abc_a");
            due("one line", x.leastMeasure(1), 60);
            due("two lines", x.leastMeasure(2), 38);
            x.set(MEASURE, 60);
            due("lines with 60", x.lines(0, 0), 1);
            x.set(MEASURE, 59);
            due("lines with 59", x.lines(0, 0), 2);
            x.set(MEASURE, 38);
            due("lines with 38", x.lines(0, 0), 2);
            x.set(MEASURE, 37);
            due("lines with 37", x.lines(0, 0), 3);
        });
        test("Promise 14", "at most some lines: fewer will do", () -> {
            HungStops x = withWords(1, 1, 1, 1);
            x.sort(0, 1, 0, 0);
            x.set(SPACE, 1);
            for (int lines = 1; lines <= 24; lines++) due("leastMeasure(" + lines + ")", x.leastMeasure(lines), 20);
        });
        test("Promise 14", "greedily: not in the lines of the best way", () ->
            due("four lines", narrow(FEWER_GREEDILY).leastMeasure(4), 20));
        test("Promise 14", "lines: 1 to 24", () -> {
            HungStops x = with(TWENTY_FOUR);
            x.sort(0, 20, 0, 0);
            due("24", x.leastMeasure(24), 20);
            due("23", x.leastMeasure(23), 46);
            due("1", x.leastMeasure(1), NONE);
        });
        test("Promise 14", "BAD_VALUE if lines is out of range", () -> {
            for (int lines : new int[] {0, 25, -1, LEAST_INT, GREATEST_INT}) due("leastMeasure(" + lines + ")", rich().leastMeasure(lines), BAD_VALUE);
            due("without words", new HungStops().leastMeasure(0), BAD_VALUE);
        });
        test("Promise 14", "returns the measure, 20 at least", () -> {
            due("a body of 8", withWords(1).leastMeasure(1), 20);
            HungStops x = narrow(10, 9);
            due("a body of 20", x.leastMeasure(1), 20);
            x.set(SPACE, 2);
            due("a body of 21", x.leastMeasure(1), 21);
            due("without words", new HungStops().leastMeasure(1), 20);
        });
        test("Promise 14", "returns the measure, 200 at most; NONE if there is none", () -> {
            HungStops x = withWords(10, 10);
            x.sort(0, 9, 0, 0);
            x.set(SPACE, 20);
            due("a body of 200", x.leastMeasure(1), 200);
            add(x, "!");
            x.sort(7, 1, 0, 0);
            x.set(SPACE, 9);
            due("a body of 199", x.leastMeasure(1), 199);
            x.set(SPACE, 10);
            due("a body of 201", x.leastMeasure(1), NONE);
            due("in two lines", x.leastMeasure(2), 101);
        });
        test("Promise 14", "a word that does not fit stands in a line, too", () -> {
            HungStops x = withWords(10, 10);
            due("two lines of 80", x.leastMeasure(2), 20);
            due("one line", x.leastMeasure(1), 166);
        });
        test("Promise 14", "MEASURE itself does not matter", () -> {
            HungStops x = with("ab_abc_a");
            x.set(MEASURE, 20);
            due("of 20", x.leastMeasure(1), 60);
            x.set(MEASURE, 200);
            due("of 200", x.leastMeasure(1), 60);
        });
        test("Promise 14", "nothing changes", () -> {
            changesNothing("leastMeasure(0)", EdgesTest::rich, x -> x.leastMeasure(0));
            changesNothing("leastMeasure(1)", EdgesTest::rich, x -> x.leastMeasure(1));
            changesNothing("leastMeasure(24)", EdgesTest::rich, x -> x.leastMeasure(24));
            changesNothing("leastMeasure(1) of 24 words", EdgesTest::full, x -> x.leastMeasure(1));
        });
    }

    /** In narrow letters, with a measure of 20, and with a "!" of the width that hangs nowhere. */
    private static HungStops marked(int width, String text) {
        HungStops x = narrow(with(text));
        x.sort(7, width, 0, 0);
        return x;
    }

    private static void bestShare() {
        test("Promise 15", "of several the least: 0, if no share is better", () -> {
            due("a sort that is not in the text", marked(3, "abcdefghij_abcdefghij").bestShare(7), 0);
            due("a sort at no end of a line", marked(3, "!bcdefghi_abcdefghij").bestShare(7), 0);
            due("a text that has one line", marked(19, "a!").bestShare(7), 0);
            due("without words", new HungStops().bestShare(0), 0);
        });
        test("Promise 15", "of several the least: the first share that hangs as far", () -> {
            // 18 less 4 fits behind 5 and 1: from 40 on 4 of 10 units hang, from 50 on 5.
            HungStops x = marked(10, "abcde_abcdefgh!_abcdefghij");
            due("bestShare(7)", x.bestShare(7), 40);
            x.sort(7, 10, 0, 39);
            due("badness with 39", x.lines(1, 1), 225 + 25);
            x.sort(7, 10, 0, 40);
            due("badness with 40", x.lines(1, 1), 0);
        });
        test("Promise 15", "the share, 0 to 100: the greatest one", () -> {
            HungStops x = marked(20, "abcdefghij_abcdefghi!_abcdefghij");
            due("bestShare(7)", x.bestShare(7), 100);
            HungStops one = marked(1, "abcdefghij_abcdefghi!_abcdefghij");
            due("1 unit that hangs with 100 alone", one.bestShare(7), 100);
        });
        test("Promise 15", "a share between, where less and more are worse", () -> {
            HungStops x = marked(9, "abcde!_abcdefghi_abc!");
            due("bestShare(7)", x.bestShare(7), 23);
            int[] shares = {0, 22, 23, 33, 34, 100};
            int[] badness = {157, 170, 64, 64, 81, 225};
            for (int at = 0; at < shares.length; at++) {
                x.sort(7, 9, 0, shares[at]);
                due("badness with " + shares[at], x.lines(1, 1), badness[at]);
            }
        });
        test("Promise 15", "the badness of the best way, not of the greedy one", () ->
            due("bestShare(7)", marked(14, "abcdefghi_abcd!_a!_abcdefghi").bestShare(7), 100));
        test("Promise 15", "the right share is sought, and the left one stays", () -> {
            HungStops x = marked(10, "abcde_abcdefgh!_abcdefghij");
            x.sort(7, 10, 100, 0);
            due("bestShare(7)", x.bestShare(7), 40);
            due("left share", x.sortOf(7, 1), 100);
        });
        test("Promise 15", "the share that it has does not matter", () -> {
            HungStops x = marked(10, "abcde_abcdefgh!_abcdefghij");
            for (int share : new int[] {0, 40, 77, 100}) {
                x.sort(7, 10, 0, share);
                due("bestShare(7) with " + share, x.bestShare(7), 40);
            }
        });
        test("Promise 15", "0, if HANGS is 0", () -> {
            HungStops x = marked(10, "abcde_abcdefgh!_abcdefghij");
            x.set(HANGS, 0);
            due("bestShare(7)", x.bestShare(7), 0);
        });
        test("Promise 15", "NO_SUCH if there is no such sort", () -> {
            for (int sort : new int[] {-1, 8, LEAST_INT, GREATEST_INT}) {
                due("bestShare(" + sort + ")", rich().bestShare(sort), NO_SUCH);
                due("without words", new HungStops().bestShare(sort), NO_SUCH);
            }
        });
        test("Promise 15", "nothing changes", () -> {
            for (int each = -1; each <= 8; each++) {
                int sort = each;
                changesNothing("bestShare(" + sort + ")", EdgesTest::rich, x -> x.bestShare(sort));
            }
        });
    }

    private static void worstWord() {
        test("Promise 16", "of several the lowest", () -> {
            due("two alike", narrow(10, 10).worstWord(), 0);
            due("one line", with("a_b_c").worstWord(), 0);
            due("two behind a better one", narrow(1, 10, 10, 10).worstWord(), 1);
        });
        test("Promise 16", "the first, a middle and the last word", () -> {
            HungStops x = withWords(10, 1, 1);
            x.set(MEASURE, 60);
            due("the first", x.worstWord(), 0);
            x.swap(0, 1);
            due("the middle one", x.worstWord(), 1);
            x.swap(1, 2);
            due("the last", x.worstWord(), 2);
        });
        test("Promise 16", "the badness of the best way, not of the greedy one", () -> {
            HungStops x = narrow(8, 6, 1, 6, 4);
            x.sort(0, 2, 0, 0);
            due("worstWord()", x.worstWord(), 1);
        });
        test("Promise 16", "the only word", () -> {
            due("that fits", withWords(1).worstWord(), 0);
            HungStops x = withWords(10);
            x.set(MEASURE, 20);
            due("that does not fit", x.worstWord(), 0);
        });
        test("Promise 16", "of 24 words", () -> {
            HungStops x = with("a_b_c_d_e_f_g_h_i_j_k_l_m_n_o_p_q_r_s_t_u_v_w");
            add(x, "abcdefghij");
            x.set(MEASURE, 40);
            due("worstWord()", x.worstWord(), 23);
        });
        test("Promise 16", "NONE if there are no words", () -> {
            due("a new object", new HungStops().worstWord(), NONE);
            HungStops x = full();
            x.clear();
            due("a cleared text", x.worstWord(), NONE);
            due("words in the pad alone", typed("a_b").worstWord(), NONE);
        });
        test("Promise 16", "nothing changes", () -> {
            changesNothing("worstWord()", EdgesTest::rich, HungStops::worstWord);
            changesNothing("worstWord() of 24", EdgesTest::full, HungStops::worstWord);
            changesNothing("worstWord() of none", HungStops::new, HungStops::worstWord);
        });
    }

    // ---- promises 17 to 19: texts

    private static void put() {
        test("Promise 17", "the lowest 8 bits are the last character, the next 8 bits the one before", () -> {
            HungStops x = new HungStops();
            due("put", x.put(0x6162632e2c3b3a2dL), 8);
            due("put", x.put(0x2721), 10);
            x.read();
            dueText("the word", textOf(x, 0), "abc.,;:-'!");
        });
        test("Promise 17", "appends: behind those that there are", () -> {
            HungStops x = typed("ab");
            due("put", x.put('c'), 3);
            x.read();
            dueText("the word", textOf(x, 0), "abc");
        });
        test("Promise 17", "1 to 8 characters", () -> {
            String text = "abcdefgh";
            for (int length = 1; length <= 8; length++) {
                HungStops x = new HungStops();
                due("put of " + length, x.put(packed(text.substring(0, length))), length);
                x.read();
                dueText("the word", textOf(x, 0), text.substring(0, length));
            }
        });
        test("Promise 17", "BAD_VALUE if there is no character", () -> {
            due("into an empty pad", new HungStops().put(0), BAD_VALUE);
            refused(BAD_VALUE, EdgesTest::rich, x -> x.put(0));
        });
        test("Promise 17", "BAD_VALUE if a code is not 33 to 126: at each place", () -> {
            for (int place = 0; place < 8; place++) {
                for (int code : new int[] {1, 32, 33, 126, 127, 128, 255}) {
                    long number = packed("aaaaaaaa") & ~(255L << 8 * place) | (long) code << 8 * place;
                    due("the code " + code + " at " + place, new HungStops().put(number), code < 33 || code > 126 ? BAD_VALUE : 8);
                }
            }
            for (int code = 1; code < 256; code++) due("put(" + code + ")", new HungStops().put(code), code < 33 || code > 126 ? BAD_VALUE : 1);
        });
        test("Promise 17", "BAD_VALUE if a code is not 33 to 126: nothing of the others is put", () -> {
            refused(BAD_VALUE, EdgesTest::rich, x -> x.put('a' << 8 | 32));
            refused(BAD_VALUE, EdgesTest::rich, x -> x.put(32 << 8 | 'a'));
            refused(BAD_VALUE, EdgesTest::rich, x -> x.put(127 << 16 | 'a' << 8 | 'b'));
            refused(BAD_VALUE, EdgesTest::rich, x -> x.put(-1));
            refused(BAD_VALUE, EdgesTest::rich, x -> x.put(Long.MIN_VALUE));
            refused(BAD_VALUE, EdgesTest::rich, x -> x.put(Long.MAX_VALUE));
        });
        test("Promise 17", "BAD_VALUE if a bit above 8 bits that are 0 is not 0: each bit", () -> {
            for (int bit = 8; bit < 64; bit++) due("bit " + bit + " above no character", new HungStops().put(1L << bit), BAD_VALUE);
            for (int bit = 16; bit < 64; bit++) due("bit " + bit + " above one character", new HungStops().put(1L << bit | 'a'), BAD_VALUE);
            for (int place = 0; place < 7; place++) {
                long number = packed("aaaaaaaa") & ~(255L << 8 * place);
                due("a gap at " + place, new HungStops().put(number), BAD_VALUE);
            }
            refused(BAD_VALUE, EdgesTest::rich, x -> x.put('a' << 16 | 'b'));
            refused(BAD_VALUE, EdgesTest::rich, x -> x.put('a' << 8));
        });
        test("Promise 17", "TOO_MANY if the pad would be longer than 60", () -> {
            refused(TOO_MANY, () -> typed(SIXTY), x -> x.put('a'));
            refused(TOO_MANY, () -> typed(SIXTY.substring(0, 53)), x -> x.put(packed("abcdefgh")));
            refused(TOO_MANY, () -> typed(SIXTY.substring(0, 59)), x -> x.put(packed("ab")));
            for (int length = 1; length <= 8; length++) {
                HungStops x = typed(SIXTY.substring(0, 60 - length));
                due("the last " + length, x.put(packed(SIXTY.substring(60 - length))), 60);
                due("one more", x.put('a'), TOO_MANY);
            }
        });
        test("Promise 17", "returns the length of the pad then", () -> {
            HungStops x = new HungStops();
            for (int length = 1; length <= 60; length++) due("put", x.put('a'), length);
        });
        test("Promise 17", "it is no change", () -> isNoChange(EdgesTest::rich, x -> x.put('a')));
    }

    private static void wipe() {
        test("Promise 18", "empties the pad", () -> {
            HungStops x = typed(SIXTY);
            x.wipe();
            due("count(8)", x.count(8), 0);
            due("fault()", x.fault(), 0);
            due("read()", x.read(), BAD_TEXT);
            due("put", x.put('z'), 1);
            due("read", x.read(), 1);
            dueText("the word", textOf(x, 0), "z");
        });
        test("Promise 18", "returns the length that it had: 0, 1 and 60", () -> {
            due("0", new HungStops().wipe(), 0);
            due("1", typed("?").wipe(), 1);
            due("60", typed(SIXTY).wipe(), 60);
            HungStops x = typed("abc");
            due("3", x.wipe(), 3);
            due("0 then", x.wipe(), 0);
        });
        test("Promise 18", "it is no change, and the text stays", () -> {
            isNoChange(EdgesTest::rich, HungStops::wipe);
            HungStops x = rich();
            x.wipe();
            due("count(4)", x.count(4), 3);
            dueText("the first word", textOf(x, 0), "'ab");
        });
    }

    private static void fault() {
        test("Promise 19", "returns the fault of the pad", () -> {
            due("at the first place", typed("!?").fault(), 1);
            due("at 0", typed("9").fault(), 0);
            due("at the last of 60", typed(SIXTY.substring(0, 59) + "#").fault(), 59);
        });
        test("Promise 19", "NONE if there is none", () -> {
            due("one letter", typed("a").fault(), NONE);
            due("one stop", typed("'").fault(), NONE);
            due("60 characters", typed(SIXTY).fault(), NONE);
            due("more than 24 words", typed(TWENTY_FOUR + "_y").fault(), NONE);
            due("a full text", type(full(), "y").fault(), NONE);
        });
        test("Promise 19", "nothing changes", () -> {
            changesNothing("fault()", EdgesTest::rich, HungStops::fault);
            changesNothing("fault() of an empty pad", EdgesTest::full, HungStops::fault);
            changesNothing("fault() of a faulty pad", () -> typed("a__"), HungStops::fault);
        });
    }

    // ---- promises 20 to 22: undo, saving

    private static void undo() {
        test("Promise 20", "undoes the latest change: the states come back one by one", () -> {
            HungStops x = new HungStops();
            String[] states = new String[6];
            Act[] changes = {y -> y.set(LOOSE, 3), y -> y.sort(0, 9, 1, 2), y -> add(y, "abc_d").count(4), y -> y.swap(0, 1), y -> y.drop(0), HungStops::clear};
            for (int change = 0; change < 6; change++) {
                states[change] = seen(x);
                changes[change].on(x);
                x = replayed(changes, change + 1);
            }
            for (int undone = 1; undone <= 6; undone++) {
                HungStops y = replayed(changes, 6);
                for (int time = 1; time <= undone; time++) due("undo", y.undo(), 6 - time);
                dueText("state after " + undone, seen(y), states[6 - undone]);
            }
        });
        test("Promise 20", "everything except the pad: what was read does not come back to it", () -> {
            HungStops x = with("ab_c");
            x.undo();
            due("the pad stays empty", x.count(8), 0);
            due("the words are gone", x.count(4), 0);
            type(x, "xyz");
            x.clear();
            x.put('w');
            x.undo();
            due("the pad stays longer", x.count(8), 4);
            due("read", x.read(), 1);
            dueText("the word", textOf(x, 0), "xyzw");
        });
        test("Promise 20", "everything except the slots: what was saved stays", () -> {
            HungStops x = new HungStops();
            x.set(MEASURE, 100);
            x.save(0);
            x.undo();
            due("restore(0)", x.restore(0), 0);
            due("MEASURE", x.count(0), 100);
            x.save(1);
            due("undo of restore", x.undo(), 0);
            due("MEASURE", x.count(0), 80);
            due("restore(1)", x.restore(1), 0);
            due("MEASURE", x.count(0), 100);
        });
        test("Promise 20", "everything except the history: what was undone cannot be undone again", () -> {
            HungStops x = new HungStops();
            x.set(MEASURE, 100);
            x.set(MEASURE, 101);
            due("undo", x.undo(), 1);
            due("undo again", x.undo(), 0);
            due("and again", x.undo(), NOT_POSSIBLE);
            due("MEASURE", x.count(0), 80);
        });
        test("Promise 20", "a history of at most 6 states is kept; when one more is recorded, the oldest one is dropped", () -> {
            for (int changes = 6; changes <= 20; changes++) {
                HungStops x = new HungStops();
                for (int change = 1; change <= changes; change++) x.set(MEASURE, 80 + change);
                due("count(9)", x.count(9), 6);
                for (int left = 5; left >= 0; left--) {
                    due("undo", x.undo(), left);
                    due("MEASURE", x.count(0), 80 + changes - 6 + left);
                }
                due("one more", x.undo(), NOT_POSSIBLE);
                due("MEASURE", x.count(0), 80 + changes - 6);
            }
        });
        test("Promise 20", "changes after some were undone", () -> {
            for (int undone = 1; undone <= 6; undone++) {
                HungStops x = new HungStops();
                for (int change = 1; change <= 8; change++) x.set(MEASURE, 80 + change);
                for (int time = 0; time < undone; time++) x.undo();
                due("MEASURE", x.count(0), 88 - undone);
                due("changes that can be undone", x.count(9), 6 - undone);
                for (int change = 1; change <= 6; change++) x.set(MEASURE, 100 + change);
                for (int left = 5; left >= 0; left--) {
                    due("undo", x.undo(), left);
                    due("MEASURE", x.count(0), left == 0 ? 88 - undone : 100 + left);
                }
                due("one more", x.undo(), NOT_POSSIBLE);
            }
        });
        test("Promise 20", "each method that is a change records the state before it, with a full history, too", () -> {
            Act[] changes = {y -> y.set(0, 99), y -> y.sort(1, 5, 5, 5), HungStops::read, y -> y.drop(0), y -> y.swap(0, 1), HungStops::clear, y -> y.restore(1)};
            for (Act change : changes) {
                HungStops x = rich();
                x.set(LOOSE, 1);
                String before = stateOf(x);
                change.on(x);
                due("count(9)", x.count(9), 6);
                due("undo", x.undo(), 5);
                dueText("the state", stateOf(x), before);
            }
        });
        test("Promise 20", "also if nothing is different then", () -> {
            HungStops x = with("ab_ab");
            x.set(MEASURE, 80);
            x.sort(0, 8, 0, 0);
            x.swap(0, 1);
            x.save(0);
            due("four changes", x.count(9), 4);
            x.restore(0);
            due("five changes", x.count(9), 5);
            HungStops empty = new HungStops();
            empty.clear();
            due("clear of nothing", empty.count(9), 1);
        });
        test("Promise 20", "a call that returns an error is not recorded", () -> {
            HungStops x = with("ab_c");
            x.set(0, 19);
            x.sort(8, 1, 1, 1);
            x.sort(0, 0, 1, 1);
            x.read();
            x.drop(2);
            x.swap(0, 2);
            x.swap(0, 0);
            x.restore(0);
            x.restore(2);
            due("count(9)", x.count(9), 1);
        });
        test("Promise 20", "what is no change is not recorded: put, wipe, fault, undo, save", () -> {
            isNoChange(EdgesTest::rich, x -> x.put('a'));
            isNoChange(EdgesTest::rich, HungStops::wipe);
            isNoChange(EdgesTest::rich, x -> x.save(0));
            HungStops x = rich();
            due("fault()", x.fault(), NONE);
            due("count(9)", x.count(9), 5);
            due("undo()", x.undo(), 4);
            due("count(9)", x.count(9), 4);
        });
        test("Promise 20", "NOT_POSSIBLE if there is none", () -> {
            due("a new object", new HungStops().undo(), NOT_POSSIBLE);
            refused(NOT_POSSIBLE, () -> {
                HungStops x = typed("ab");
                x.save(0);
                return x;
            }, HungStops::undo);
            HungStops x = with("ab");
            due("the only one", x.undo(), 0);
            due("none is left", x.undo(), NOT_POSSIBLE);
            x.clear();
            due("a new one", x.undo(), 0);
        });
    }

    private static HungStops replayed(Act[] changes, int many) {
        HungStops x = new HungStops();
        for (int change = 0; change < many; change++) changes[change].on(x);
        return x;
    }

    private static void save() {
        test("Promise 21", "returns how many words there are: 0, and 24", () -> {
            due("none", new HungStops().save(0), 0);
            due("24", full().save(1), 24);
        });
        test("Promise 21", "slot: 0 or 1; BAD_VALUE if there is no such slot", () -> {
            for (int slot : new int[] {-1, 2, LEAST_INT, GREATEST_INT}) due("save(" + slot + ")", rich().save(slot), BAD_VALUE);
            refused(BAD_VALUE, EdgesTest::rich, x -> x.save(2));
            refused(BAD_VALUE, EdgesTest::rich, x -> x.save(-1));
        });
        test("Promise 21", "overwrites what was saved there, and not what is in the other slot", () -> {
            HungStops x = with("ab_c");
            x.save(0);
            x.save(1);
            x.drop(0);
            x.save(1);
            due("restore(0)", x.restore(0), 2);
            due("restore(1)", x.restore(1), 1);
            x.clear();
            x.save(0);
            due("restore(0)", x.restore(0), 0);
            due("restore(1)", x.restore(1), 1);
            dueText("the word", textOf(x, 0), "c");
        });
        test("Promise 21", "everything except the pad", () -> {
            HungStops x = with("ab_c");
            type(x, "xy");
            x.save(0);
            x.put('z');
            x.restore(0);
            due("count(8)", x.count(8), 3);
            x.wipe();
            x.restore(0);
            due("count(8)", x.count(8), 0);
        });
        test("Promise 21", "everything except the history", () -> {
            HungStops x = new HungStops();
            x.save(0);
            for (int change = 1; change <= 3; change++) x.set(LOOSE, change);
            x.restore(0);
            due("count(9)", x.count(9), 4);
            due("undo", x.undo(), 3);
            due("LOOSE", x.count(2), 3);
            due("undo", x.undo(), 2);
            due("LOOSE", x.count(2), 2);
        });
        test("Promise 21", "everything except the slots", () -> {
            HungStops x = with("ab");
            x.save(0);
            add(x, "c");
            x.save(1);
            x.restore(0);
            due("restore(1)", x.restore(1), 2);
        });
        test("Promise 21", "later changes do not reach what is saved", () -> {
            HungStops x = rich();
            x.save(0);
            x.set(MEASURE, 99);
            x.sort(6, 1, 2, 3);
            x.swap(0, 1);
            x.drop(2);
            due("restore(0)", x.restore(0), 3);
            due("MEASURE", x.count(0), 50);
            due("a width", x.sortOf(6, 0), 3);
            dueText("the first word", textOf(x, 0), "'ab");
            dueText("the last word", textOf(x, 2), "e;fgh");
        });
        test("Promise 21", "it is no change", () -> {
            isNoChange(EdgesTest::rich, x -> x.save(0));
            isNoChange(EdgesTest::rich, x -> x.save(1));
        });
    }

    private static void restore() {
        test("Promise 22", "restores what was saved last in a slot: settings, face and words", () -> {
            HungStops x = rich();
            x.save(0);
            for (int setting = 0; setting < 4; setting++) x.set(setting, setting == HANGS ? 0 : 20);
            for (int sort = 0; sort < 8; sort++) x.sort(sort, 2, 3, 4);
            x.clear();
            due("restore(0)", x.restore(0), 3);
            dueText("the state", stateOf(x), stateOf(rich()));
        });
        test("Promise 22", "returns how many words there are then: 0, and 24", () -> {
            HungStops x = new HungStops();
            x.save(1);
            add(x, TWENTY_FOUR);
            x.save(0);
            due("none", x.restore(1), 0);
            due("24", x.restore(0), 24);
            for (int word = 0; word < 24; word++) due("the word " + word, x.word(word, 4), 'a' + word);
        });
        test("Promise 22", "which keeps it: it can be restored again", () -> {
            HungStops x = with("ab_c");
            x.save(0);
            for (int time = 0; time < 3; time++) {
                x.drop(0);
                x.set(MEASURE, 30);
                due("restore(0)", x.restore(0), 2);
                dueText("the first word", textOf(x, 0), "ab");
                due("MEASURE", x.count(0), 80);
            }
        });
        test("Promise 22", "slot: 0 or 1; BAD_VALUE if there is no such slot", () -> {
            for (int slot : new int[] {-1, 2, LEAST_INT, GREATEST_INT}) due("restore(" + slot + ")", rich().restore(slot), BAD_VALUE);
            refused(BAD_VALUE, EdgesTest::rich, x -> x.restore(2));
            refused(BAD_VALUE, EdgesTest::rich, x -> x.restore(-1));
        });
        test("Promise 22", "NOT_POSSIBLE if nothing was saved in it", () -> {
            refused(NOT_POSSIBLE, EdgesTest::rich, x -> x.restore(0));
            refused(NOT_POSSIBLE, EdgesTest::full, x -> x.restore(1));
            HungStops x = new HungStops();
            x.save(1);
            due("the other one was saved", x.restore(0), NOT_POSSIBLE);
            due("an empty text was saved", x.restore(1), 0);
        });
        test("Promise 22", "this is a change, also if nothing is different then", () -> {
            isChange(EdgesTest::rich, x -> x.restore(1));
            isChange(() -> {
                HungStops x = rich();
                x.save(0);
                return x;
            }, x -> x.restore(0));
        });
    }
}
