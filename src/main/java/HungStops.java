/** Words with stops, broken into lines whose first and last signs hang out past the edges. */
public final class HungStops {
    public static final int NO_SUCH = -1001, BAD_VALUE = -1002, BAD_TEXT = -1003, TOO_MANY = -1004, NOT_POSSIBLE = -1005, NONE = -1006;
    public static final int MEASURE = 0, SPACE = 1, LOOSE = 2, HANGS = 3;

    private static final int SETTINGS = 4, SORTS = 8, WORDS_AT_MOST = 24, SIGNS_AT_MOST = 10;
    private static final int PAD_AT_MOST = 60, UNDO_AT_MOST = 6, SLOTS = 2, WAYS = 2, GREEDY = 0, BEST = 1;
    private static final int WIDTH_AT_MOST = 20, WHOLE = 100, BADNESS_OF_NO_FIT = 10000;
    private static final char GAP = '_';
    private static final int[] LEAST_VALUE = {20, 1, 0, 0};
    private static final int[] GREATEST_VALUE = {200, 20, 40, 1};

    private final Sheet now = new Sheet();
    private final Sheet trial = new Sheet();
    private final Layout greedy = new Layout();
    private final Layout best = new Layout();
    private final Pad pad = new Pad();
    private final History history = new History();
    private final Sheet[] slots = {new Sheet(), new Sheet()};
    private final boolean[] filled = new boolean[SLOTS];

    public HungStops() {
    }

    // ---- changes

    public int set(int setting, int value) {
        if (setting < 0 || setting >= SETTINGS) return BAD_VALUE;
        if (value < LEAST_VALUE[setting] || value > GREATEST_VALUE[setting]) return BAD_VALUE;
        history.record(now);
        int previous = now.settings[setting];
        now.settings[setting] = value;
        return previous;
    }

    public int sort(int sort, int width, int left, int right) {
        if (!isSort(sort)) return NO_SUCH;
        if (width < 1 || width > WIDTH_AT_MOST || !isShare(left) || !isShare(right)) return BAD_VALUE;
        history.record(now);
        int previous = now.widths[sort];
        now.widths[sort] = width;
        now.lefts[sort] = left;
        now.rights[sort] = right;
        return previous;
    }

    public int read() {
        if (pad.firstFault() != NONE) return BAD_TEXT;
        if (now.words + pad.countWords() > WORDS_AT_MOST) return TOO_MANY;
        history.record(now);
        pad.addWordsTo(now);
        pad.length = 0;
        return now.words;
    }

    public int drop(int word) {
        if (!isWord(word)) return NO_SUCH;
        history.record(now);
        int width = now.widthOf(word);
        now.takeOut(word);
        return width;
    }

    public int swap(int one, int other) {
        if (!isWord(one) || !isWord(other)) return NO_SUCH;
        if (one == other) return BAD_VALUE;
        history.record(now);
        now.exchange(one, other);
        return broken(GREEDY).lines;
    }

    public int clear() {
        history.record(now);
        int words = now.words;
        now.words = 0;
        return words;
    }

    // ---- what there is; nothing changes

    public int sortOf(int sort, int what) {
        if (!isSort(sort)) return NO_SUCH;
        switch (what) {
            case 0: return now.widths[sort];
            case 1: return now.lefts[sort];
            case 2: return now.rights[sort];
            case 3: return now.hangAtLeft(sort);
            case 4: return now.hangAtRight(sort);
            case 5: return now.countOf(sort);
            default: return BAD_VALUE;
        }
    }

    public int word(int word, int what) {
        if (!isWord(word)) return NO_SUCH;
        if (what < 0) return BAD_VALUE;
        switch (what) {
            case 0: return now.lengths[word];
            case 1: return now.widthOf(word);
            case 2: return broken(GREEDY).lineWith(word);
            case 3: return broken(BEST).lineWith(word);
            default: return what - 4 < now.lengths[word] ? now.signAt(word, what - 4) : NONE;
        }
    }

    public int line(int way, int line, int what) {
        if (!isWay(way) || what < 0 || what > 8) return BAD_VALUE;
        Layout layout = broken(way);
        if (line < 0 || line >= layout.lines) return NO_SUCH;
        return layout.tellLine(line, what);
    }

    public int lines(int way, int what) {
        if (!isWay(way)) return BAD_VALUE;
        switch (what) {
            case 0: return broken(way).lines;
            case 1: return broken(way).badness();
            case 2: return broken(way).countIndented();
            case 3: return broken(way).countUnfit();
            case 4: return broken(way).greatestBody();
            default: return BAD_VALUE;
        }
    }

    public int count(int what) {
        if (what >= 0 && what < SETTINGS) return now.settings[what];
        switch (what) {
            case 4: return now.words;
            case 5: return now.countSigns();
            case 6: return now.countSigns() - now.countOf(0);
            case 7: return broken(GREEDY).breaksLike(broken(BEST)) ? 1 : 0;
            case 8: return pad.length;
            case 9: return history.size;
            default: return BAD_VALUE;
        }
    }

    // ---- what if; nothing changes

    public int body(int from, int to) {
        if (!isWord(from) || !isWord(to) || to < from) return NO_SUCH;
        greedy.weigh(now);
        return greedy.bodyOf(from, to);
    }

    public int leastMeasure(int lines) {
        if (lines < 1 || lines > WORDS_AT_MOST) return BAD_VALUE;
        greedy.weigh(now);
        for (int measure = LEAST_VALUE[MEASURE]; measure <= GREATEST_VALUE[MEASURE]; measure++) {
            greedy.measure = measure;
            greedy.fillGreedily();
            if (greedy.lines <= lines) return measure;
        }
        return NONE;
    }

    public int bestShare(int sort) {
        if (!isSort(sort)) return NO_SUCH;
        trial.copyFrom(now);
        int found = 0;
        int least = 0;
        int hangBefore = -1;
        for (int share = 0; share <= WHOLE; share++) {
            trial.rights[sort] = share;
            int hang = trial.hangAtRight(sort);
            // A share that hangs no further than the one before breaks the text as that one did.
            if (hang == hangBefore) continue;
            hangBefore = hang;
            int badness = leastBadnessOf(trial);
            if (share == 0 || badness < least) {
                found = share;
                least = badness;
            }
        }
        return found;
    }

    public int worstWord() {
        int found = NONE;
        int least = 0;
        for (int word = 0; word < now.words; word++) {
            trial.copyFrom(now);
            trial.takeOut(word);
            int badness = leastBadnessOf(trial);
            if (found == NONE || badness < least) {
                found = word;
                least = badness;
            }
        }
        return found;
    }

    // ---- texts

    public int put(long characters) {
        int length = Pad.lengthOf(characters);
        if (length == 0) return BAD_VALUE;
        if (pad.length + length > PAD_AT_MOST) return TOO_MANY;
        pad.append(characters, length);
        return pad.length;
    }

    public int wipe() {
        int length = pad.length;
        pad.length = 0;
        return length;
    }

    public int fault() {
        return pad.firstFault();
    }

    // ---- undo, saving

    public int undo() {
        if (history.size == 0) return NOT_POSSIBLE;
        history.takeBack(now);
        return history.size;
    }

    public int save(int slot) {
        if (slot < 0 || slot >= SLOTS) return BAD_VALUE;
        slots[slot].copyFrom(now);
        filled[slot] = true;
        return now.words;
    }

    public int restore(int slot) {
        if (slot < 0 || slot >= SLOTS) return BAD_VALUE;
        if (!filled[slot]) return NOT_POSSIBLE;
        history.record(now);
        now.copyFrom(slots[slot]);
        return now.words;
    }

    private static boolean isSort(int sort) {
        return sort >= 0 && sort < SORTS;
    }

    private static boolean isShare(int share) {
        return share >= 0 && share <= WHOLE;
    }

    private static boolean isWay(int way) {
        return way >= 0 && way < WAYS;
    }

    private boolean isWord(int word) {
        return word >= 0 && word < now.words;
    }

    /** The sort of a sign, or -1 if the code is not that of a sign. */
    private static int sortWith(int code) {
        if (code >= 'a' && code <= 'z') return 0;
        switch (code) {
            case '.': return 1;
            case ',': return 2;
            case ';': return 3;
            case ':': return 4;
            case '-': return 5;
            case '\'': return 6;
            case '!': return 7;
            default: return -1;
        }
    }

    private Layout broken(int way) {
        Layout layout = way == GREEDY ? greedy : best;
        layout.weigh(now);
        if (way == GREEDY) layout.fillGreedily();
        else layout.breakBest();
        return layout;
    }

    private int leastBadnessOf(Sheet sheet) {
        best.weigh(sheet);
        return best.leastBadness();
    }

    /** All that a change can change: the settings, the face and the words. */
    private static final class Sheet {
        final int[] settings = {80, 6, 12, 1};
        final int[] widths = {8, 3, 3, 3, 3, 5, 3, 3};
        final int[] lefts = {0, 0, 0, 0, 0, 0, 60, 0};
        final int[] rights = {0, 100, 100, 50, 50, 70, 60, 0};
        final char[] signs = new char[WORDS_AT_MOST * SIGNS_AT_MOST];
        final int[] lengths = new int[WORDS_AT_MOST];
        int words = 0;

        void copyFrom(Sheet other) {
            System.arraycopy(other.settings, 0, settings, 0, SETTINGS);
            System.arraycopy(other.widths, 0, widths, 0, SORTS);
            System.arraycopy(other.lefts, 0, lefts, 0, SORTS);
            System.arraycopy(other.rights, 0, rights, 0, SORTS);
            System.arraycopy(other.signs, 0, signs, 0, other.words * SIGNS_AT_MOST);
            System.arraycopy(other.lengths, 0, lengths, 0, other.words);
            words = other.words;
        }

        void beginWord() {
            if (words >= WORDS_AT_MOST) return;
            lengths[words] = 0;
            words++;
        }

        /** Adds a sign to the last word. */
        void addSign(char sign) {
            int word = words - 1;
            if (word < 0 || lengths[word] >= SIGNS_AT_MOST) return;
            signs[word * SIGNS_AT_MOST + lengths[word]] = sign;
            lengths[word]++;
        }

        void takeOut(int word) {
            for (int later = word + 1; later < words; later++) {
                System.arraycopy(signs, later * SIGNS_AT_MOST, signs, (later - 1) * SIGNS_AT_MOST, SIGNS_AT_MOST);
                lengths[later - 1] = lengths[later];
            }
            words--;
        }

        void exchange(int one, int other) {
            for (int sign = 0; sign < SIGNS_AT_MOST; sign++) {
                char kept = signs[one * SIGNS_AT_MOST + sign];
                signs[one * SIGNS_AT_MOST + sign] = signs[other * SIGNS_AT_MOST + sign];
                signs[other * SIGNS_AT_MOST + sign] = kept;
            }
            int length = lengths[one];
            lengths[one] = lengths[other];
            lengths[other] = length;
        }

        char signAt(int word, int sign) {
            return signs[word * SIGNS_AT_MOST + sign];
        }

        int sortAt(int word, int sign) {
            // The words come from a pad without a fault, so that each of their codes has a sort.
            return Math.max(sortWith(signAt(word, sign)), 0);
        }

        int widthOf(int word) {
            int width = 0;
            for (int sign = 0; sign < lengths[word]; sign++) width += widths[sortAt(word, sign)];
            return width;
        }

        int countSigns() {
            int signsInAll = 0;
            for (int word = 0; word < words; word++) signsInAll += lengths[word];
            return signsInAll;
        }

        int countOf(int sort) {
            int found = 0;
            for (int word = 0; word < words; word++) {
                for (int sign = 0; sign < lengths[word]; sign++) {
                    if (sortAt(word, sign) == sort) found++;
                }
            }
            return found;
        }

        int hangAtLeft(int sort) {
            return settings[HANGS] == 0 ? 0 : widths[sort] * lefts[sort] / WHOLE;
        }

        int hangAtRight(int sort) {
            return settings[HANGS] == 0 ? 0 : widths[sort] * rights[sort] / WHOLE;
        }

        int leftHangOf(int word) {
            return hangAtLeft(sortAt(word, 0));
        }

        int rightHangOf(int word) {
            return hangAtRight(sortAt(word, Math.max(lengths[word] - 1, 0)));
        }
    }

    /** The words of a sheet as weights, and the lines into which they are broken. */
    private static final class Layout {
        /** Where each word would begin, and what would come behind the last one, if all stood in one line. */
        final int[] places = new int[WORDS_AT_MOST + 1];
        final int[] leftHangs = new int[WORDS_AT_MOST];
        final int[] rightHangs = new int[WORDS_AT_MOST];
        int words = 0;
        int measure = 0;
        int space = 0;
        int loose = 0;
        /** The first word of each line, and behind the last line how many words there are. */
        final int[] starts = new int[WORDS_AT_MOST + 1];
        int lines = 0;
        /** The least badness of the words from each one to the end, and where its first line ends. */
        final int[] leastFrom = new int[WORDS_AT_MOST + 1];
        final int[] nextStart = new int[WORDS_AT_MOST];

        void weigh(Sheet sheet) {
            words = sheet.words;
            measure = sheet.settings[MEASURE];
            space = sheet.settings[SPACE];
            loose = sheet.settings[LOOSE];
            places[0] = 0;
            for (int word = 0; word < words; word++) {
                places[word + 1] = places[word] + sheet.widthOf(word) + space;
                leftHangs[word] = sheet.leftHangOf(word);
                rightHangs[word] = sheet.rightHangOf(word);
            }
        }

        int widthFrom(int from, int to) {
            return places[to + 1] - places[from] - space;
        }

        int bodyOf(int from, int to) {
            return widthFrom(from, to) - leftHangs[from] - rightHangs[to];
        }

        /*
         * One more word always makes a body greater: no sign hangs by more than its own width,
         * and a space is 1 at least. So a line that a word makes too long stays too long.
         */

        void fillGreedily() {
            lines = 0;
            for (int word = 0; word < words; word++) {
                if (lines == 0 || bodyOf(starts[lines - 1], word) > measure) {
                    starts[lines] = word;
                    lines++;
                }
            }
            starts[lines] = words;
        }

        void breakBest() {
            leastBadness();
            lines = 0;
            int next = 0;
            for (int word = 0; word < words; word++) {
                if (word == next) {
                    starts[lines] = word;
                    lines++;
                    next = nextStart[word];
                }
            }
            starts[lines] = words;
        }

        int leastBadness() {
            leastFrom[words] = 0;
            for (int from = words - 1; from >= 0; from--) findFirstLine(from);
            return leastFrom[0];
        }

        private void findFirstLine(int from) {
            leastFrom[from] = badnessOf(from, from) + leastFrom[from + 1];
            nextStart[from] = from + 1;
            for (int to = from + 1; to < words && bodyOf(from, to) <= measure; to++) {
                int badness = badnessOf(from, to) + leastFrom[to + 1];
                // Of several the longer line is taken, so an equal badness wins, too.
                if (badness <= leastFrom[from]) {
                    leastFrom[from] = badness;
                    nextStart[from] = to + 1;
                }
            }
        }

        private int badnessOf(int from, int to) {
            int left = measure - bodyOf(from, to);
            if (left < 0) return BADNESS_OF_NO_FIT;
            return to == words - 1 ? 0 : left * left;
        }

        int lineWith(int word) {
            int found = 0;
            for (int line = 0; line < lines; line++) {
                if (starts[line] <= word) found = line;
            }
            return found;
        }

        int lastWord(int line) {
            return starts[line + 1] - 1;
        }

        int bodyOfLine(int line) {
            return bodyOf(starts[line], lastWord(line));
        }

        boolean fits(int line) {
            return bodyOfLine(line) <= measure;
        }

        boolean looksIndented(int line) {
            return fits(line) && line < lines - 1 && measure - bodyOfLine(line) > loose;
        }

        int tellLine(int line, int what) {
            switch (what) {
                case 0: return starts[line];
                case 1: return starts[line + 1] - starts[line];
                case 2: return widthFrom(starts[line], lastWord(line));
                case 3: return leftHangs[starts[line]];
                case 4: return rightHangs[lastWord(line)];
                case 5: return bodyOfLine(line);
                case 6: return fits(line) ? measure - bodyOfLine(line) : NONE;
                case 7: return fits(line) ? 1 : 0;
                default: return looksIndented(line) ? 1 : 0;
            }
        }

        int badness() {
            int sum = 0;
            for (int line = 0; line < lines; line++) sum += badnessOf(starts[line], lastWord(line));
            return sum;
        }

        int countIndented() {
            int found = 0;
            for (int line = 0; line < lines; line++) {
                if (looksIndented(line)) found++;
            }
            return found;
        }

        int countUnfit() {
            int found = 0;
            for (int line = 0; line < lines; line++) {
                if (!fits(line)) found++;
            }
            return found;
        }

        int greatestBody() {
            if (lines == 0) return NONE;
            int greatest = bodyOfLine(0);
            for (int line = 1; line < lines; line++) greatest = Math.max(greatest, bodyOfLine(line));
            return greatest;
        }

        boolean breaksLike(Layout other) {
            if (lines != other.lines) return false;
            for (int line = 0; line < lines; line++) {
                if (starts[line] != other.starts[line]) return false;
            }
            return true;
        }
    }

    private static final class Pad {
        final char[] text = new char[PAD_AT_MOST];
        int length = 0;

        /** How many characters the number gives, or 0 if it is not a right one. */
        static int lengthOf(long characters) {
            int found = 0;
            long rest = characters;
            for (int place = 0; place < 8 && rest != 0; place++) {
                int code = (int) (rest & 255);
                if (code < 33 || code > 126) return 0;
                found++;
                rest >>>= 8;
            }
            return found;
        }

        void append(long characters, int more) {
            if (more < 0 || length + more > PAD_AT_MOST) return;
            for (int place = 0; place < more; place++) {
                text[length + more - 1 - place] = (char) ((characters >>> (8 * place)) & 255);
            }
            length += more;
        }

        int firstFault() {
            int signs = 0;
            for (int at = 0; at < length; at++) {
                if (text[at] == GAP) {
                    if (signs == 0) return at;
                    signs = 0;
                } else {
                    if (sortWith(text[at]) < 0 || signs == SIGNS_AT_MOST) return at;
                    signs++;
                }
            }
            return signs == 0 ? length : NONE;
        }

        int countWords() {
            int found = 1;
            for (int at = 0; at < length; at++) {
                if (text[at] == GAP) found++;
            }
            return found;
        }

        void addWordsTo(Sheet sheet) {
            sheet.beginWord();
            for (int at = 0; at < length; at++) {
                if (text[at] == GAP) sheet.beginWord();
                else sheet.addSign(text[at]);
            }
        }
    }

    /** The states before the latest changes, as a ring whose oldest one is written over when it is full. */
    private static final class History {
        final Sheet[] states = new Sheet[UNDO_AT_MOST];
        int next = 0;
        int size = 0;

        History() {
            for (int state = 0; state < UNDO_AT_MOST; state++) states[state] = new Sheet();
        }

        void record(Sheet sheet) {
            states[next].copyFrom(sheet);
            next = (next + 1) % UNDO_AT_MOST;
            if (size < UNDO_AT_MOST) size++;
        }

        void takeBack(Sheet sheet) {
            if (size == 0) return;
            next = (next + UNDO_AT_MOST - 1) % UNDO_AT_MOST;
            sheet.copyFrom(states[next]);
            size--;
        }
    }
}
