/** For each promise: ordinary calls, the edges that the document names, and wrong arguments. */
public final class HungStopsTest {
    private static final int NO_SUCH = HungStops.NO_SUCH, BAD_VALUE = HungStops.BAD_VALUE, BAD_TEXT = HungStops.BAD_TEXT;
    private static final int TOO_MANY = HungStops.TOO_MANY, NOT_POSSIBLE = HungStops.NOT_POSSIBLE, NONE = HungStops.NONE;
    private static final int LEAST_INT = Integer.MIN_VALUE, GREATEST_INT = Integer.MAX_VALUE;
    private static final String TWENTY_FOUR = "a_b_c_d_e_f_g_h_i_j_k_l_m_n_o_p_q_r_s_t_u_v_w_x";

    /** In narrow letters and a measure of 20 these words are broken 3, 1, 1 greedily and 2, 2, 1 in the best way. */
    private static final String DIFFERS = words(6, 8, 4, 10, 10);

    private static int wrong = 0;
    private static int promise = 0;
    private static int checked = 0;

    public static void main(String[] args) {
        aNewObject();
        settings();
        sorts();
        reading();
        dropping();
        swapping();
        clearing();
        tellingSorts();
        tellingWords();
        tellingLines();
        tellingWays();
        counting();
        bodies();
        leastMeasures();
        bestShares();
        worstWords();
        putting();
        wiping();
        faults();
        undoing();
        saving();
        restoring();
        System.out.println(wrong == 0 ? checked + " answers are as due" : wrong + " answers are not as due");
        if (wrong != 0) System.exit(1);
    }

    private static void due(String call, int got, int want) {
        checked++;
        if (got == want) return;
        wrong++;
        System.out.println("promise " + promise + ": " + call + " answered " + got + ", due is " + want);
    }

    /** The characters as the number that put takes. */
    private static long packed(String text) {
        long number = 0;
        for (int at = 0; at < text.length(); at++) number = number << 8 | text.charAt(at);
        return number;
    }

    private static void type(HungStops x, String text) {
        for (int at = 0; at < text.length(); at += 8) {
            x.put(packed(text.substring(at, Math.min(at + 8, text.length()))));
        }
    }

    private static void add(HungStops x, String text) {
        x.wipe();
        type(x, text);
        if (x.read() < 0) throw new IllegalStateException("not read: " + text);
    }

    private static HungStops with(String text) {
        HungStops x = new HungStops();
        add(x, text);
        return x;
    }

    /** Letters of one unit that hang nowhere, and a space of one, so that widths are easily told. */
    private static HungStops narrow(int measure, String text) {
        HungStops x = with(text);
        x.sort(0, 1, 0, 0);
        x.set(HungStops.SPACE, 1);
        x.set(HungStops.MEASURE, measure);
        return x;
    }

    private static String letters(int length) {
        return "abcdefghij".substring(0, length);
    }

    private static String words(int... lengths) {
        StringBuilder text = new StringBuilder();
        for (int length : lengths) {
            if (text.length() > 0) text.append('_');
            text.append(letters(length));
        }
        return text.toString();
    }

    private static void starts(HungStops x, int way, int... firsts) {
        due("lines(" + way + ", 0)", x.lines(way, 0), firsts.length);
        for (int line = 0; line < firsts.length; line++) {
            due("line(" + way + ", " + line + ", 0)", x.line(way, line, 0), firsts[line]);
        }
    }

    private static void aNewObject() {
        promise = 1;
        HungStops x = new HungStops();
        int[] counts = {80, 6, 12, 1, 0, 0, 0, 1, 0, 0};
        for (int what = 0; what < counts.length; what++) due("count(" + what + ")", x.count(what), counts[what]);
        int[] widths = {8, 3, 3, 3, 3, 5, 3, 3};
        int[] lefts = {0, 0, 0, 0, 0, 0, 60, 0};
        int[] rights = {0, 100, 100, 50, 50, 70, 60, 0};
        for (int sort = 0; sort < 8; sort++) {
            due("sortOf(" + sort + ", 0)", x.sortOf(sort, 0), widths[sort]);
            due("sortOf(" + sort + ", 1)", x.sortOf(sort, 1), lefts[sort]);
            due("sortOf(" + sort + ", 2)", x.sortOf(sort, 2), rights[sort]);
            due("sortOf(" + sort + ", 5)", x.sortOf(sort, 5), 0);
        }
        due("undo", x.undo(), NOT_POSSIBLE);
        due("restore(0)", x.restore(0), NOT_POSSIBLE);
        due("restore(1)", x.restore(1), NOT_POSSIBLE);
        x.set(0, 90);
        add(x, "a");
        HungStops other = new HungStops();
        due("count(0) of another", other.count(0), 80);
        due("count(4) of another", other.count(4), 0);
    }

    private static void settings() {
        promise = 2;
        int[] first = {80, 6, 12, 1};
        int[] least = {20, 1, 0, 0};
        int[] greatest = {200, 20, 40, 1};
        for (int setting = 0; setting < 4; setting++) {
            HungStops x = new HungStops();
            due("set below", x.set(setting, least[setting] - 1), BAD_VALUE);
            due("set above", x.set(setting, greatest[setting] + 1), BAD_VALUE);
            due("set far below", x.set(setting, LEAST_INT), BAD_VALUE);
            due("set far above", x.set(setting, GREATEST_INT), BAD_VALUE);
            due("no change yet", x.count(9), 0);
            due("set to the least", x.set(setting, least[setting]), first[setting]);
            due("the least", x.count(setting), least[setting]);
            due("set to the greatest", x.set(setting, greatest[setting]), least[setting]);
            due("the greatest", x.count(setting), greatest[setting]);
            due("set to the same", x.set(setting, greatest[setting]), greatest[setting]);
            due("changes", x.count(9), 3);
            for (int other = 0; other < 4; other++) {
                if (other != setting) due("another setting", x.count(other), first[other]);
            }
        }
        HungStops x = new HungStops();
        for (int setting : new int[] {-1, 4, LEAST_INT, GREATEST_INT}) due("no such setting", x.set(setting, 1), BAD_VALUE);
        due("no change", x.count(9), 0);
    }

    private static void sorts() {
        promise = 3;
        HungStops x = new HungStops();
        due("sort", x.sort(5, 20, 100, 99), 5);
        due("width", x.sortOf(5, 0), 20);
        due("left", x.sortOf(5, 1), 100);
        due("right", x.sortOf(5, 2), 99);
        due("sort to the least", x.sort(5, 1, 0, 0), 20);
        due("width", x.sortOf(5, 0), 1);
        due("left", x.sortOf(5, 1), 0);
        due("right", x.sortOf(5, 2), 0);
        due("right to the most", x.sort(7, 3, 0, 100), 3);
        due("right", x.sortOf(7, 2), 100);
        due("the others stay", x.sortOf(4, 2), 50);
        due("changes", x.count(9), 3);
        for (int sort : new int[] {-1, 8, LEAST_INT, GREATEST_INT}) {
            due("no such sort", x.sort(sort, 5, 5, 5), NO_SUCH);
            due("no such sort is told first", x.sort(sort, 0, 101, -1), NO_SUCH);
        }
        for (int width : new int[] {0, 21, LEAST_INT, GREATEST_INT}) due("bad width", x.sort(0, width, 5, 5), BAD_VALUE);
        for (int share : new int[] {-1, 101, LEAST_INT, GREATEST_INT}) {
            due("bad left share", x.sort(0, 5, share, 5), BAD_VALUE);
            due("bad right share", x.sort(0, 5, 5, share), BAD_VALUE);
        }
        due("errors change nothing", x.sortOf(0, 0), 8);
        due("nor are they recorded", x.count(9), 3);
    }

    private static void reading() {
        promise = 4;
        HungStops x = new HungStops();
        due("read of an empty pad", x.read(), BAD_TEXT);
        type(x, "ab_c");
        due("read", x.read(), 2);
        due("the pad is empty", x.count(8), 0);
        due("read again", x.read(), BAD_TEXT);
        type(x, "'!");
        due("read behind them", x.read(), 3);
        due("the first word stays", x.word(0, 4), 'a');
        due("the last word", x.word(2, 5), '!');
        due("changes", x.count(9), 2);
        type(x, "a__b");
        due("read of a fault", x.read(), BAD_TEXT);
        due("the pad stays", x.count(8), 4);
        x.clear();
        x.wipe();
        type(x, TWENTY_FOUR);
        due("read of 24", x.read(), 24);
        type(x, "a");
        due("read of one more", x.read(), TOO_MANY);
        due("the pad stays", x.count(8), 1);
        due("the words stay", x.count(4), 24);
        due("it is not recorded", x.count(9), 4);
        type(x, "_");
        due("the fault is told first", x.read(), BAD_TEXT);
        x.wipe();
        x.drop(3);
        type(x, "abcdefghij");
        due("read of the last that goes in", x.read(), 24);
        due("its ten signs", x.word(23, 13), 'j');
        x.clear();
        type(x, TWENTY_FOUR + "_y");
        due("read of 25 at once", x.read(), TOO_MANY);
    }

    private static void dropping() {
        promise = 5;
        HungStops x = with("a_bc_d,_e");
        due("drop", x.drop(1), 16);
        due("words", x.count(4), 3);
        due("those before stay", x.word(0, 4), 'a');
        due("those behind come nearer", x.word(1, 5), ',');
        due("and the last", x.word(2, 4), 'e');
        due("with its length", x.word(2, 0), 1);
        due("no such word now", x.drop(3), NO_SUCH);
        due("below 0", x.drop(-1), NO_SUCH);
        due("far below", x.drop(LEAST_INT), NO_SUCH);
        due("far above", x.drop(GREATEST_INT), NO_SUCH);
        due("changes", x.count(9), 2);
        due("drop of the last", x.drop(2), 8);
        due("drop of the first", x.drop(0), 8);
        due("drop of the only one", x.drop(0), 11);
        due("none left", x.drop(0), NO_SUCH);
        HungStops full = with(TWENTY_FOUR);
        due("drop of the 24th", full.drop(23), 8);
        due("drop of the first of 23", full.drop(0), 8);
        due("the new last", full.word(21, 4), 'w');
    }

    private static void swapping() {
        promise = 6;
        HungStops x = narrow(20, words(10, 10, 9, 9));
        due("lines before", x.lines(0, 0), 3);
        due("swap", x.swap(0, 3), 2);
        due("the first is the last", x.word(0, 0), 9);
        due("the last is the first", x.word(3, 13), 'j');
        due("those between stay", x.word(1, 0), 10);
        due("swap the other way round", x.swap(3, 0), 3);
        due("changes", x.count(9), 6);
        due("the same", x.swap(2, 2), BAD_VALUE);
        due("no such one", x.swap(4, 0), NO_SUCH);
        due("no such other", x.swap(0, 4), NO_SUCH);
        due("below 0", x.swap(-1, 0), NO_SUCH);
        due("other below 0", x.swap(0, -1), NO_SUCH);
        due("no such word is told first", x.swap(4, 4), NO_SUCH);
        due("far off", x.swap(LEAST_INT, GREATEST_INT), NO_SUCH);
        x.undo();
        due("errors are not recorded", x.word(0, 0), 9);
    }

    private static void clearing() {
        promise = 7;
        HungStops x = with("a_b_c");
        type(x, "zz");
        due("clear", x.clear(), 3);
        due("no words", x.count(4), 0);
        due("no signs", x.count(5), 0);
        due("no lines", x.lines(0, 0), 0);
        due("the pad stays", x.count(8), 2);
        due("clear of nothing", x.clear(), 0);
        due("it is a change, too", x.count(9), 3);
    }

    private static void tellingSorts() {
        promise = 8;
        HungStops x = with("a'a_b.,;:-'!_z..");
        int[] often = {4, 3, 1, 1, 1, 1, 2, 1};
        int[] atRight = {0, 3, 3, 1, 1, 3, 1, 0};
        for (int sort = 0; sort < 8; sort++) {
            due("how often " + sort, x.sortOf(sort, 5), often[sort]);
            due("hang at the left " + sort, x.sortOf(sort, 3), sort == 6 ? 1 : 0);
            due("hang at the right " + sort, x.sortOf(sort, 4), atRight[sort]);
        }
        x.sort(0, 19, 99, 1);
        due("rounded down at the left", x.sortOf(0, 3), 18);
        due("rounded down at the right", x.sortOf(0, 4), 0);
        x.set(HungStops.HANGS, 0);
        due("nothing hangs at the left", x.sortOf(0, 3), 0);
        due("nothing hangs at the right", x.sortOf(1, 4), 0);
        due("the share stays", x.sortOf(0, 1), 99);
        due("the other share stays", x.sortOf(1, 2), 100);
        for (int what : new int[] {-1, 6, LEAST_INT, GREATEST_INT}) due("bad what", x.sortOf(7, what), BAD_VALUE);
        for (int sort : new int[] {-1, 8, LEAST_INT, GREATEST_INT}) due("no such sort", x.sortOf(sort, 6), NO_SUCH);
    }

    private static void tellingWords() {
        promise = 9;
        HungStops x = narrow(20, words(9, 1, 10, 5, 10) + "_.,;:-'!az");
        due("signs", x.word(0, 0), 9);
        due("width", x.word(0, 1), 9);
        due("width of the stops", x.word(5, 1), 25);
        String stops = ".,;:-'!az";
        for (int sign = 0; sign < stops.length(); sign++) due("code " + sign, x.word(5, 4 + sign), stops.charAt(sign));
        due("behind the last sign", x.word(5, 13), NONE);
        due("far behind it", x.word(5, GREATEST_INT), NONE);
        due("behind ten signs", x.word(2, 14), NONE);
        due("the tenth sign", x.word(2, 13), 'j');
        int[] lines = {0, 0, 1, 1, 2, 3};
        for (int word = 0; word < lines.length; word++) due("line of " + word, x.word(word, 2), lines[word]);
        due("bad what", x.word(0, -1), BAD_VALUE);
        due("far below", x.word(0, LEAST_INT), BAD_VALUE);
        for (int word : new int[] {-1, 6, LEAST_INT, GREATEST_INT}) due("no such word", x.word(word, -1), NO_SUCH);
        HungStops y = narrow(20, DIFFERS);
        due("greedily in the first line", y.word(2, 2), 0);
        due("best in the second", y.word(2, 3), 1);
        due("greedily in the second", y.word(3, 2), 1);
        due("best in the second, too", y.word(3, 3), 1);
        due("the last one, greedily", y.word(4, 2), 2);
        due("the last one, best", y.word(4, 3), 2);
    }

    private static void tellingLines() {
        promise = 10;
        HungStops x = with("'ab_cd,_abcdefghij_abc_ab-");
        // Widths: 19, 19, 80, 24, 21.
        x.set(HungStops.MEASURE, 60);
        int[][] lines = {
            {0, 2, 44, 1, 3, 40, 20, 1, 1},
            {2, 1, 80, 0, 0, 80, NONE, 0, 0},
            {3, 2, 51, 0, 3, 48, 12, 1, 0},
        };
        for (int way = 0; way < 2; way++) {
            for (int line = 0; line < lines.length; line++) {
                for (int what = 0; what < 9; what++) {
                    due("line(" + way + ", " + line + ", " + what + ")", x.line(way, line, what), lines[line][what]);
                }
            }
        }
        x.set(HungStops.LOOSE, 20);
        due("not more than LOOSE is left", x.line(0, 0, 8), 0);
        x.set(HungStops.LOOSE, 19);
        due("more than LOOSE is left", x.line(0, 0, 8), 1);
        x.set(HungStops.MEASURE, 80);
        due("it just fits", x.line(0, 1, 7), 1);
        due("nothing is left", x.line(0, 1, 6), 0);
        x.set(HungStops.MEASURE, 79);
        due("it just does not fit", x.line(0, 1, 7), 0);
        due("so nothing is told", x.line(0, 1, 6), NONE);
        for (int way : new int[] {-1, 2, LEAST_INT, GREATEST_INT}) due("bad way", x.line(way, 99, 0), BAD_VALUE);
        for (int what : new int[] {-1, 9, LEAST_INT, GREATEST_INT}) due("bad what", x.line(0, 99, what), BAD_VALUE);
        for (int line : new int[] {-1, 3, LEAST_INT, GREATEST_INT}) {
            due("no such line", x.line(0, line, 0), NO_SUCH);
            due("no such line of the best way", x.line(1, line, 8), NO_SUCH);
        }
        HungStops one = with("'");
        due("one sign hangs at the left", one.line(0, 0, 3), 1);
        due("and at the right", one.line(0, 0, 4), 1);
        due("its body", one.line(0, 0, 5), 1);
        due("the last line never looks indented", one.line(0, 0, 8), 0);
        one.sort(6, 20, 100, 100);
        due("a body below 0", one.line(0, 0, 5), -20);
        due("what is left of it", one.line(0, 0, 6), 100);
        due("it fits", one.line(0, 0, 7), 1);
        one.set(HungStops.HANGS, 0);
        due("nothing hangs", one.line(0, 0, 5), 20);
    }

    private static void tellingWays() {
        promise = 11;
        HungStops empty = new HungStops();
        for (int way = 0; way < 2; way++) {
            for (int what = 0; what < 4; what++) due("without words", empty.lines(way, what), 0);
            due("without lines", empty.lines(way, 4), NONE);
        }
        waysThatDiffer();
        waysThatAreAsGood();
        linesThatDoNotFit();
        for (int way : new int[] {-1, 2, LEAST_INT, GREATEST_INT}) due("bad way", empty.lines(way, 0), BAD_VALUE);
        for (int what : new int[] {-1, 5, LEAST_INT, GREATEST_INT}) {
            due("bad what", empty.lines(0, what), BAD_VALUE);
            due("bad what of the best way", empty.lines(1, what), BAD_VALUE);
        }
        HungStops quote = with("'");
        quote.sort(6, 20, 100, 100);
        due("a greatest body below 0", quote.lines(0, 4), -20);
        due("the badness of the last line", quote.lines(0, 1), 0);
    }

    private static void waysThatDiffer() {
        HungStops x = narrow(20, DIFFERS);
        x.set(HungStops.LOOSE, 4);
        starts(x, 0, 0, 3, 4);
        due("greedy badness", x.lines(0, 1), 100);
        due("greedy indented", x.lines(0, 2), 1);
        due("greatest greedy body", x.lines(0, 4), 20);
        starts(x, 1, 0, 2, 4);
        due("best badness", x.lines(1, 1), 50);
        due("best indented", x.lines(1, 2), 2);
        due("greatest best body", x.lines(1, 4), 15);
        x.set(HungStops.LOOSE, 5);
        due("best indented, with more LOOSE", x.lines(1, 2), 0);
    }

    private static void waysThatAreAsGood() {
        HungStops x = narrow(40, words(10, 5, 10, 10));
        x.sort(0, 2, 0, 0);
        starts(x, 1, 0, 2, 3);
        due("badness", x.lines(1, 1), 81 + 400);
        HungStops later = narrow(40, words(10, 10, 5, 10, 10));
        later.sort(0, 2, 0, 0);
        starts(later, 1, 0, 1, 3, 4);
        due("badness", later.lines(1, 1), 400 + 81 + 400);
    }

    private static void linesThatDoNotFit() {
        HungStops x = with(words(10, 2, 10));
        x.set(HungStops.MEASURE, 60);
        for (int way = 0; way < 2; way++) {
            starts(x, way, 0, 1, 2);
            due("the last one counts, too", x.lines(way, 1), 10000 + 44 * 44 + 10000);
            due("indented", x.lines(way, 2), 1);
            due("that do not fit", x.lines(way, 3), 2);
            due("greatest body", x.lines(way, 4), 80);
        }
        x.set(HungStops.MEASURE, 80);
        due("that do not fit now", x.lines(0, 3), 0);
        due("badness", x.lines(0, 1), 64 * 64);
    }

    private static void counting() {
        promise = 12;
        HungStops x = with("ab_'c!_-");
        type(x, "A_");
        int[] counts = {80, 6, 12, 1, 3, 6, 3, 1, 2, 1};
        for (int what = 0; what < counts.length; what++) due("count(" + what + ")", x.count(what), counts[what]);
        int[] values = {20, 20, 40, 0};
        for (int setting = 0; setting < values.length; setting++) {
            x.set(setting, values[setting]);
            due("count(" + setting + ")", x.count(setting), values[setting]);
        }
        due("changes", x.count(9), 5);
        x.clear();
        x.clear();
        due("six changes at most", x.count(9), 6);
        for (int what : new int[] {-1, 10, LEAST_INT, GREATEST_INT}) due("bad what", x.count(what), BAD_VALUE);
        HungStops y = narrow(20, DIFFERS);
        due("as many lines", y.lines(0, 0), y.lines(1, 0));
        due("but not alike", y.count(7), 0);
        y.set(HungStops.MEASURE, 200);
        due("alike", y.count(7), 1);
    }

    private static void bodies() {
        promise = 13;
        HungStops x = with("'ab_cd,_ef-_'");
        due("one word", x.body(0, 0), 18);
        due("two words", x.body(0, 1), 19 + 6 + 19 - 1 - 3);
        due("all words", x.body(0, 3), 19 + 19 + 21 + 3 + 18 - 1 - 1);
        due("words in the middle", x.body(1, 2), 19 + 6 + 21 - 3);
        due("one sign", x.body(3, 3), 1);
        x.set(HungStops.HANGS, 0);
        due("nothing hangs", x.body(0, 1), 44);
        x.set(HungStops.SPACE, 20);
        due("a wider space", x.body(0, 1), 58);
        x.set(HungStops.MEASURE, 20);
        due("MEASURE does not matter", x.body(0, 3), 19 + 19 + 21 + 3 + 60);
        due("to below from", x.body(2, 1), NO_SUCH);
        due("from below 0", x.body(-1, 0), NO_SUCH);
        due("no such last word", x.body(0, 4), NO_SUCH);
        due("neither", x.body(4, 4), NO_SUCH);
        due("both below 0", x.body(-2, -1), NO_SUCH);
        due("far off", x.body(LEAST_INT, GREATEST_INT), NO_SUCH);
        due("far off, turned", x.body(GREATEST_INT, LEAST_INT), NO_SUCH);
    }

    private static void leastMeasures() {
        promise = 14;
        HungStops x = with("ab_abc_a");
        due("one line", x.leastMeasure(1), 16 + 24 + 8 + 12);
        due("two lines", x.leastMeasure(2), 38);
        due("three lines", x.leastMeasure(3), 20);
        due("24 lines", x.leastMeasure(24), 20);
        due("nothing changes", x.count(0), 80);
        due("nothing is recorded", x.count(9), 1);
        x.sort(1, 20, 0, 100);
        add(x, ".");
        due("what hangs helps", x.leastMeasure(1), 16 + 24 + 8 + 18);
        due("a line that need not fit", with(words(10)).leastMeasure(1), 20);
        HungStops wide = with(words(10, 10));
        wide.sort(0, 9, 0, 0);
        wide.set(HungStops.SPACE, 20);
        due("the greatest measure", wide.leastMeasure(1), 200);
        add(wide, "!");
        due("none", wide.leastMeasure(1), NONE);
        due("with one line more", wide.leastMeasure(2), 113);
        for (int lines : new int[] {0, 25, -1, LEAST_INT, GREATEST_INT}) due("bad lines", x.leastMeasure(lines), BAD_VALUE);
        due("without words", new HungStops().leastMeasure(1), 20);
    }

    private static void bestShares() {
        promise = 15;
        HungStops x = narrow(20, "abcde_abcdefgh!_abcdefghij");
        x.sort(7, 10, 0, 77);
        due("the least share that helps", x.bestShare(7), 40);
        due("nothing changes", x.sortOf(7, 2), 77);
        due("nothing is recorded", x.count(9), 5);
        due("nothing is better", x.bestShare(0), 0);
        due("not in the text", x.bestShare(1), 0);
        x.sort(7, 4, 0, 0);
        due("it fits anyhow", x.bestShare(7), 0);
        x.sort(7, 10, 0, 0);
        x.set(HungStops.HANGS, 0);
        due("nothing hangs", x.bestShare(7), 0);
        HungStops whole = narrow(20, "abcdefghij_abcdefghi!_abcdefghij");
        whole.sort(7, 20, 0, 0);
        due("the whole of it", whole.bestShare(7), 100);
        due("without words", new HungStops().bestShare(0), 0);
        for (int sort : new int[] {-1, 8, LEAST_INT, GREATEST_INT}) due("no such sort", x.bestShare(sort), NO_SUCH);
    }

    private static void worstWords() {
        promise = 16;
        HungStops x = narrow(20, words(10, 5, 9, 10));
        due("the worst word", x.worstWord(), 1);
        due("nothing changes", x.count(4), 4);
        due("nothing is recorded", x.count(9), 4);
        due("the lowest of several", narrow(20, words(10, 10)).worstWord(), 0);
        due("the lowest of those behind the first", narrow(20, words(1, 10, 10, 10)).worstWord(), 1);
        HungStops y = with("abcd_ab_abcdefghij_ab_abcdefghij");
        y.set(HungStops.MEASURE, 54);
        due("the last one, which does not fit", y.worstWord(), 4);
        y.swap(0, 4);
        due("the second one that does not fit", y.worstWord(), 2);
        due("the only one", with("abc").worstWord(), 0);
        due("no words", new HungStops().worstWord(), NONE);
    }

    private static void putting() {
        promise = 17;
        HungStops x = new HungStops();
        due("one character", x.put('a'), 1);
        due("eight", x.put(packed("bcdefghi")), 9);
        due("they stand in their order", x.read(), 1);
        for (int sign = 0; sign < 9; sign++) due("sign " + sign, x.word(0, 4 + sign), 'a' + sign);
        due("it is no change", x.count(9), 1);
        due("none", x.put(0), BAD_VALUE);
        due("too low", x.put(32), BAD_VALUE);
        due("too high", x.put(127), BAD_VALUE);
        due("the lowest", x.put(33), 1);
        due("the highest", x.put(126), 2);
        due("too low behind another", x.put('a' << 8 | 32), BAD_VALUE);
        due("too low before another", x.put(1 << 8 | 'a'), BAD_VALUE);
        due("above 127", x.put(200), BAD_VALUE);
        due("something above 0", x.put('a' << 16 | 'b'), BAD_VALUE);
        due("only above 0", x.put('a' << 8), BAD_VALUE);
        due("a bit far above", x.put(1L << 63 | 'a'), BAD_VALUE);
        due("a bit above the int", x.put(1L << 32), BAD_VALUE);
        due("all bits", x.put(-1), BAD_VALUE);
        due("the least number", x.put(Long.MIN_VALUE), BAD_VALUE);
        due("the greatest number", x.put(Long.MAX_VALUE), BAD_VALUE);
        due("errors change nothing", x.count(8), 2);
        for (int at = 10; at <= 58; at += 8) due("eight more", x.put(packed("abcdefgh")), at);
        due("more than 60", x.put(packed("abc")), TOO_MANY);
        due("that changes nothing", x.count(8), 58);
        due("60", x.put(packed("ab")), 60);
        due("61", x.put('a'), TOO_MANY);
        due("a bad value is told first", x.put(32), BAD_VALUE);
        due("and so is none", x.put(0), BAD_VALUE);
    }

    private static void wiping() {
        promise = 18;
        HungStops x = new HungStops();
        due("wipe of an empty pad", x.wipe(), 0);
        type(x, "abc");
        due("wipe", x.wipe(), 3);
        due("it is empty then", x.count(8), 0);
        due("wipe again", x.wipe(), 0);
        due("it is no change", x.count(9), 0);
        type(x, words(10, 10, 10, 10, 10) + "_abcde");
        due("wipe of a full pad", x.wipe(), 60);
        due("put starts anew", x.put('z'), 1);
        x.read();
        due("with what was put then", x.word(0, 4), 'z');
    }

    private static void fault(String text, int want) {
        HungStops x = new HungStops();
        type(x, text);
        due("fault of " + text, x.fault(), want);
        due("the pad stays", x.count(8), text.length());
        due("read of " + text, x.read(), want == NONE ? text.split("_").length : BAD_TEXT);
    }

    private static void faults() {
        promise = 19;
        fault("", 0);
        fault("a", NONE);
        fault("abcdefghijklmnopqrstuvwxyz".substring(0, 10), NONE);
        fault("klmnopqrst_uvwxyz", NONE);
        fault(".,;:-'!", NONE);
        fault("'_!_-", NONE);
        fault("_", 0);
        fault("_a", 0);
        fault("a_", 2);
        fault("a__b", 2);
        fault("a_b_", 4);
        fault("abcdefghijk", 10);
        fault("ab_abcdefghij,", 13);
        fault("abcdefghij_abcdefghij", NONE);
        fault("abcdefghij_abcdefghij_", 22);
        fault("A", 0);
        fault("aZ", 1);
        fault("a`", 1);
        fault("a{", 1);
        fault("a1", 1);
        fault("a?_b", 1);
        fault("a\"_", 1);
        fault("a*", 1);
        fault("a+", 1);
        fault("a/", 1);
        fault("a<b", 1);
        fault("a^", 1);
        fault("a(", 1);
        fault("a_B__", 2);
        String full = words(10, 10, 10, 10, 10);
        fault(full + "_abcde", NONE);
        fault(full + "_abcd_", 60);
        HungStops x = new HungStops();
        x.fault();
        due("it is no change", x.count(9), 0);
        HungStops many = new HungStops();
        type(many, TWENTY_FOUR + "_y_z");
        due("more than 24 words are no fault", many.fault(), NONE);
    }

    private static void undoing() {
        promise = 20;
        HungStops x = new HungStops();
        due("nothing to undo", x.undo(), NOT_POSSIBLE);
        x.set(HungStops.LOOSE, 3);
        x.sort(0, 9, 1, 2);
        add(x, "abc_d");
        x.swap(0, 1);
        x.drop(0);
        x.clear();
        type(x, "zz");
        due("undo of clear", x.undo(), 5);
        due("one word", x.count(4), 1);
        due("the pad stays", x.count(8), 2);
        due("undo of drop", x.undo(), 4);
        due("two words", x.count(4), 2);
        due("the first", x.word(0, 0), 1);
        due("undo of swap", x.undo(), 3);
        due("the first", x.word(0, 0), 3);
        due("undo of read", x.undo(), 2);
        due("no words", x.count(4), 0);
        due("the pad still stays", x.count(8), 2);
        due("undo of sort", x.undo(), 1);
        due("width", x.sortOf(0, 0), 8);
        due("left share", x.sortOf(0, 1), 0);
        due("right share", x.sortOf(0, 2), 0);
        due("undo of set", x.undo(), 0);
        due("LOOSE", x.count(2), 12);
        due("nothing is left", x.undo(), NOT_POSSIBLE);
        onlySixStates();
        whatIsNotUndone();
    }

    private static void onlySixStates() {
        HungStops x = new HungStops();
        for (int measure = 101; measure <= 108; measure++) x.set(HungStops.MEASURE, measure);
        for (int left = 5; left >= 0; left--) {
            due("undo of eight", x.undo(), left);
            due("MEASURE", x.count(0), 102 + left);
        }
        due("the oldest ones are gone", x.undo(), NOT_POSSIBLE);
        due("MEASURE", x.count(0), 102);
        x.set(HungStops.MEASURE, 150);
        due("a change after that", x.count(9), 1);
        due("and its undo", x.undo(), 0);
        due("MEASURE", x.count(0), 102);
    }

    private static void whatIsNotUndone() {
        HungStops x = new HungStops();
        x.set(HungStops.MEASURE, 100);
        x.save(0);
        due("saving is no change", x.undo(), 0);
        due("the slot stays", x.restore(0), 0);
        due("MEASURE", x.count(0), 100);
        x.save(1);
        due("undo of restore", x.undo(), 0);
        due("MEASURE", x.count(0), 80);
        due("the other slot stays, too", x.restore(1), 0);
        due("MEASURE", x.count(0), 100);
    }

    private static void saving() {
        promise = 21;
        HungStops x = with("ab_c");
        type(x, "zz");
        due("save", x.save(0), 2);
        due("it is no change", x.count(9), 1);
        due("the pad stays", x.count(8), 2);
        for (int slot : new int[] {-1, 2, LEAST_INT, GREATEST_INT}) due("no such slot", x.save(slot), BAD_VALUE);
        due("the other one is empty", x.restore(1), NOT_POSSIBLE);
        x.drop(0);
        due("save in the other", x.save(1), 1);
        due("the first one keeps its words", x.restore(0), 2);
        x.clear();
        due("save over it", x.save(0), 0);
        due("the other one keeps its word", x.restore(1), 1);
        due("that word", x.word(0, 4), 'c');
        due("the first one was overwritten", x.restore(0), 0);
    }

    private static void restoring() {
        promise = 22;
        HungStops x = with("ab_c!");
        x.set(HungStops.SPACE, 9);
        x.sort(3, 17, 18, 19);
        x.save(1);
        due("nothing was saved", x.restore(0), NOT_POSSIBLE);
        for (int slot : new int[] {-1, 2, LEAST_INT, GREATEST_INT}) due("no such slot", x.restore(slot), BAD_VALUE);
        due("errors are not recorded", x.count(9), 3);
        x.clear();
        x.set(HungStops.SPACE, 1);
        x.sort(3, 1, 2, 3);
        add(x, "zzzzz_y_x");
        type(x, "w");
        for (int time = 0; time < 2; time++) {
            due("restore", x.restore(1), 2);
            due("words", x.count(4), 2);
            due("first word", x.word(0, 0), 2);
            due("its first sign", x.word(0, 4), 'a');
            due("last sign", x.word(1, 5), '!');
            due("SPACE", x.count(1), 9);
            due("width", x.sortOf(3, 0), 17);
            due("left share", x.sortOf(3, 1), 18);
            due("right share", x.sortOf(3, 2), 19);
            due("the pad stays", x.count(8), 1);
            due("changes", x.count(9), 6);
            x.drop(0);
        }
        due("undo of drop", x.undo(), 5);
        due("words", x.count(4), 2);
        due("undo of restore", x.undo(), 4);
        due("words", x.count(4), 1);
    }
}
