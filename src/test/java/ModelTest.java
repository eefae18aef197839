import java.util.ArrayDeque;
import java.util.ArrayList;
import java.util.Arrays;
import java.util.List;
import java.util.Random;

/** Long runs of calls at hazard, against a second program that follows the document's words as slowly as they go. */
public final class ModelTest {
    private static final String STOPS = ".,;:-'!";
    private static final int RUNS = 120, CALLS = 512;

    public static void main(String[] args) {
        long answers = 0;
        int[] errors = new int[6];
        for (int seed = 0; seed < RUNS; seed++) {
            Random random = new Random(seed);
            HungStops x = new HungStops();
            Model model = new Model();
            List<String> calls = new ArrayList<>();
            for (int call = 0; call < CALLS; call++) {
                Call next = Call.at(random, model);
                long want = next.on(model);
                long got = next.on(x);
                calls.add(next + " = " + got);
                answers++;
                if (got <= -1001 && got >= -1006) errors[(int) (-1001 - got)]++;
                if (got != want) {
                    System.out.println("run " + seed + ", the last calls:");
                    for (String line : calls.subList(Math.max(0, calls.size() - 20), calls.size())) System.out.println("  " + line);
                    System.out.println("due is " + want);
                    System.exit(1);
                }
            }
        }
        System.out.println(answers + " answers are as due; errors and NONE: " + Arrays.toString(errors));
    }

    /** One call with its arguments. */
    private record Call(int method, long a, int b, int c, int d) {
        static Call at(Random random, Model model) {
            // The pad is filled and read oftener than the rest is called, so that there are words.
            int method = random.nextInt(28);
            if (method >= 21) method = random.nextInt(3) == 0 ? 2 : 15;
            if (method == 5 && random.nextInt(4) != 0) method = 16;
            int words = model.now.words.size();
            return switch (method) {
                case 0 -> setting(random);
                case 1 -> new Call(1, near(random, 0, 7), near(random, 1, 20), near(random, 0, 100), near(random, 0, 100));
                case 3 -> new Call(3, near(random, 0, words - 1), 0, 0, 0);
                case 4, 11 -> new Call(method, near(random, 0, words - 1), near(random, 0, words - 1), 0, 0);
                case 6 -> new Call(6, near(random, 0, 7), near(random, 0, 5), 0, 0);
                case 7 -> new Call(7, near(random, 0, words - 1), near(random, 0, 13), 0, 0);
                case 8 -> new Call(8, near(random, 0, 1), near(random, 0, model.lines(near(random, 0, 1) & 1, 0) - 1), near(random, 0, 8), 0);
                case 9 -> new Call(9, near(random, 0, 1), near(random, 0, 4), 0, 0);
                case 10 -> new Call(10, near(random, 0, 9), 0, 0, 0);
                case 12 -> new Call(12, near(random, 1, random.nextBoolean() ? 5 : 24), 0, 0, 0);
                case 13 -> new Call(13, near(random, 0, 7), 0, 0, 0);
                case 15 -> new Call(15, characters(random, model.pad), 0, 0, 0);
                case 19, 20 -> new Call(method, near(random, 0, 1), 0, 0, 0);
                default -> new Call(method, 0, 0, 0, 0);
            };
        }

        private static Call setting(Random random) {
            int setting = near(random, 0, 3);
            int at = Math.floorMod(setting, 4);
            return new Call(0, setting, near(random, Model.LEAST[at], Model.GREATEST[at]), 0, 0);
        }

        /** Mostly within the range, now and then at its edges or out of it. */
        private static int near(Random random, int least, int greatest) {
            int kind = random.nextInt(60);
            if (kind == 0) return least - 1;
            if (kind == 1) return greatest + 1;
            if (kind == 2) return random.nextInt();
            if (kind == 3) return random.nextBoolean() ? Integer.MIN_VALUE : Integer.MAX_VALUE;
            if (kind < 8) return kind < 6 ? least : greatest;
            return greatest < least ? least : least + random.nextInt(greatest - least + 1);
        }

        private static long characters(Random random, StringBuilder pad) {
            if (random.nextInt(25) == 0) return random.nextLong() >>> random.nextInt(64);
            int length = 1 + random.nextInt(8);
            long number = 0;
            int signs = pad.length() - 1 - pad.lastIndexOf("_");
            for (int at = 0; at < length; at++) {
                int code;
                if (random.nextInt(150) == 0) code = 33 + random.nextInt(94);
                else if (signs > 0 && (signs == 10 || random.nextInt(5) == 0) && random.nextInt(20) != 0) code = '_';
                else if (random.nextInt(3) == 0) code = STOPS.charAt(random.nextInt(7));
                else code = 'a' + random.nextInt(26);
                signs = code == '_' ? 0 : signs + 1;
                number = number << 8 | code;
            }
            return number;
        }

        long on(HungStops x) {
            int first = (int) a;
            return switch (method) {
                case 0 -> x.set(first, b);
                case 1 -> x.sort(first, b, c, d);
                case 2 -> x.read();
                case 3 -> x.drop(first);
                case 4 -> x.swap(first, b);
                case 5 -> x.clear();
                case 6 -> x.sortOf(first, b);
                case 7 -> x.word(first, b);
                case 8 -> x.line(first, b, c);
                case 9 -> x.lines(first, b);
                case 10 -> x.count(first);
                case 11 -> x.body(first, b);
                case 12 -> x.leastMeasure(first);
                case 13 -> x.bestShare(first);
                case 14 -> x.worstWord();
                case 15 -> x.put(a);
                case 16 -> x.wipe();
                case 17 -> x.fault();
                case 18 -> x.undo();
                case 19 -> x.save(first);
                default -> x.restore(first);
            };
        }

        long on(Model x) {
            int first = (int) a;
            return switch (method) {
                case 0 -> x.set(first, b);
                case 1 -> x.sort(first, b, c, d);
                case 2 -> x.read();
                case 3 -> x.drop(first);
                case 4 -> x.swap(first, b);
                case 5 -> x.clear();
                case 6 -> x.sortOf(first, b);
                case 7 -> x.word(first, b);
                case 8 -> x.line(first, b, c);
                case 9 -> x.lines(first, b);
                case 10 -> x.count(first);
                case 11 -> x.body(first, b);
                case 12 -> x.leastMeasure(first);
                case 13 -> x.bestShare(first);
                case 14 -> x.worstWord();
                case 15 -> x.put(a);
                case 16 -> x.wipe();
                case 17 -> x.fault();
                case 18 -> x.undo();
                case 19 -> x.save(first);
                default -> x.restore(first);
            };
        }
    }

    private static final class State {
        int[] settings = {80, 6, 12, 1};
        int[][] face = {{8, 0, 0}, {3, 0, 100}, {3, 0, 100}, {3, 0, 50}, {3, 0, 50}, {5, 0, 70}, {3, 60, 60}, {3, 0, 0}};
        List<String> words = new ArrayList<>();

        State copy() {
            State copy = new State();
            copy.settings = settings.clone();
            for (int sort = 0; sort < 8; sort++) copy.face[sort] = face[sort].clone();
            copy.words = new ArrayList<>(words);
            return copy;
        }

        static int sortWith(char sign) {
            return STOPS.indexOf(sign) + 1;
        }

        int hang(char sign, int side) {
            int[] sort = face[sortWith(sign)];
            return settings[3] == 0 ? 0 : sort[0] * sort[side] / 100;
        }

        int width(List<String> line) {
            int width = settings[1] * (line.size() - 1);
            for (String word : line) {
                for (char sign : word.toCharArray()) width += face[sortWith(sign)][0];
            }
            return width;
        }

        int left(List<String> line) {
            return hang(line.get(0).charAt(0), 1);
        }

        int right(List<String> line) {
            String last = line.get(line.size() - 1);
            return hang(last.charAt(last.length() - 1), 2);
        }

        int body(List<String> line) {
            return width(line) - left(line) - right(line);
        }

        boolean fits(List<String> line) {
            return body(line) <= settings[0];
        }

        int badness(List<Integer> lengths) {
            int sum = 0;
            int from = 0;
            for (int length : lengths) {
                List<String> line = words.subList(from, from + length);
                int left = settings[0] - body(line);
                from += length;
                if (!fits(line)) sum += 10000;
                else if (from < words.size()) sum += left * left;
            }
            return sum;
        }

        /** As many words as fit: all numbers of words are tried, not only until one does not fit. */
        List<Integer> greedy() {
            List<Integer> lengths = new ArrayList<>();
            for (int from = 0; from < words.size(); from += lengths.get(lengths.size() - 1)) {
                int most = 1;
                for (int length = 2; from + length <= words.size(); length++) {
                    if (fits(words.subList(from, from + length))) most = length;
                }
                lengths.add(most);
            }
            return lengths;
        }

        List<Integer> best() {
            List<Integer> best = bestByTails();
            if (words.size() <= 7) {
                List<List<Integer>> all = new ArrayList<>();
                allWays(new ArrayList<>(), 0, all);
                List<Integer> tried = all.get(0);
                for (List<Integer> way : all) {
                    if (badness(way) < badness(tried) || badness(way) == badness(tried) && longerFirst(way, tried)) tried = way;
                }
                if (!tried.equals(best)) throw new IllegalStateException("the model differs from itself: " + words);
            }
            return best;
        }

        private void allWays(List<Integer> lengths, int from, List<List<Integer>> all) {
            if (from == words.size()) all.add(new ArrayList<>(lengths));
            for (int length = 1; from + length <= words.size(); length++) {
                if (length > 1 && !fits(words.subList(from, from + length))) continue;
                lengths.add(length);
                allWays(lengths, from + length, all);
                lengths.remove(lengths.size() - 1);
            }
        }

        /** The best way of each tail of the text, from the shortest one on, each compared whole. */
        private List<Integer> bestByTails() {
            List<List<Integer>> tails = new ArrayList<>();
            tails.add(new ArrayList<>());
            for (int size = 1; size <= words.size(); size++) {
                int from = words.size() - size;
                State tail = copy();
                tail.words = new ArrayList<>(words.subList(from, words.size()));
                List<Integer> best = null;
                for (int length = 1; length <= size; length++) {
                    if (length > 1 && !fits(words.subList(from, from + length))) continue;
                    List<Integer> way = new ArrayList<>();
                    way.add(length);
                    way.addAll(tails.get(size - length));
                    if (best == null || tail.badness(way) < tail.badness(best)
                            || tail.badness(way) == tail.badness(best) && longerFirst(way, best)) {
                        best = way;
                    }
                }
                tails.add(best);
            }
            return tails.get(words.size());
        }

        private static boolean longerFirst(List<Integer> one, List<Integer> other) {
            for (int line = 0; line < one.size() && line < other.size(); line++) {
                if (!one.get(line).equals(other.get(line))) return one.get(line) > other.get(line);
            }
            return false;
        }
    }

    private static final class Model {
        static final int[] LEAST = {20, 1, 0, 0};
        static final int[] GREATEST = {200, 20, 40, 1};
        State now = new State();
        StringBuilder pad = new StringBuilder();
        ArrayDeque<State> history = new ArrayDeque<>();
        State[] slots = new State[2];

        private void record() {
            history.addLast(now.copy());
            if (history.size() > 6) history.removeFirst();
        }

        private boolean out(int value, int least, int greatest) {
            return value < least || value > greatest;
        }

        private boolean noWord(int word) {
            return out(word, 0, now.words.size() - 1);
        }

        private List<Integer> way(int way) {
            return way == 0 ? now.greedy() : now.best();
        }

        int set(int setting, int value) {
            if (out(setting, 0, 3) || out(value, LEAST[setting], GREATEST[setting])) return -1002;
            record();
            int before = now.settings[setting];
            now.settings[setting] = value;
            return before;
        }

        int sort(int sort, int width, int left, int right) {
            if (out(sort, 0, 7)) return -1001;
            if (out(width, 1, 20) || out(left, 0, 100) || out(right, 0, 100)) return -1002;
            record();
            int before = now.face[sort][0];
            now.face[sort] = new int[] {width, left, right};
            return before;
        }

        int read() {
            if (fault() != -1006) return -1003;
            List<String> more = Arrays.asList(pad.toString().split("_"));
            if (now.words.size() + more.size() > 24) return -1004;
            record();
            now.words.addAll(more);
            pad.setLength(0);
            return now.words.size();
        }

        int drop(int word) {
            if (noWord(word)) return -1001;
            record();
            return now.width(List.of(now.words.remove(word)));
        }

        int swap(int one, int other) {
            if (noWord(one) || noWord(other)) return -1001;
            if (one == other) return -1002;
            record();
            now.words.set(one, now.words.set(other, now.words.get(one)));
            return now.greedy().size();
        }

        int clear() {
            record();
            int before = now.words.size();
            now.words.clear();
            return before;
        }

        int sortOf(int sort, int what) {
            if (out(sort, 0, 7)) return -1001;
            if (out(what, 0, 5)) return -1002;
            if (what < 3) return now.face[sort][what];
            char sign = sort == 0 ? 'q' : STOPS.charAt(sort - 1);
            if (what < 5) return now.hang(sign, what - 2);
            int found = 0;
            for (char each : String.join("", now.words).toCharArray()) found += State.sortWith(each) == sort ? 1 : 0;
            return found;
        }

        int word(int word, int what) {
            if (noWord(word)) return -1001;
            if (what < 0) return -1002;
            String text = now.words.get(word);
            if (what == 0) return text.length();
            if (what == 1) return now.width(List.of(text));
            if (what > 3) return what - 4 < text.length() ? text.charAt(what - 4) : -1006;
            int line = -1;
            for (int behind = 0; behind <= word; ) behind += way(what - 2).get(++line);
            return line;
        }

        int line(int way, int line, int what) {
            if (out(way, 0, 1) || out(what, 0, 8)) return -1002;
            List<Integer> lengths = way(way);
            if (out(line, 0, lengths.size() - 1)) return -1001;
            int first = 0;
            for (int before = 0; before < line; before++) first += lengths.get(before);
            List<String> words = now.words.subList(first, first + lengths.get(line));
            int left = now.settings[0] - now.body(words);
            boolean last = line == lengths.size() - 1;
            return switch (what) {
                case 0 -> first;
                case 1 -> words.size();
                case 2 -> now.width(words);
                case 3 -> now.left(words);
                case 4 -> now.right(words);
                case 5 -> now.body(words);
                case 6 -> now.fits(words) ? left : -1006;
                case 7 -> now.fits(words) ? 1 : 0;
                default -> now.fits(words) && !last && left > now.settings[2] ? 1 : 0;
            };
        }

        int lines(int way, int what) {
            if (out(way, 0, 1) || out(what, 0, 4)) return -1002;
            int size = way(way).size();
            if (what == 0) return size;
            if (what == 1) return now.badness(way(way));
            int indented = 0;
            int unfit = 0;
            int greatest = -1006;
            for (int line = 0; line < size; line++) {
                indented += line(way, line, 8);
                unfit += 1 - line(way, line, 7);
                greatest = Math.max(greatest, line(way, line, 5));
            }
            return what == 2 ? indented : what == 3 ? unfit : greatest;
        }

        int count(int what) {
            if (out(what, 0, 9)) return -1002;
            if (what < 4) return now.settings[what];
            String signs = String.join("", now.words);
            return switch (what) {
                case 4 -> now.words.size();
                case 5 -> signs.length();
                case 6 -> signs.replaceAll("[a-z]", "").length();
                case 7 -> now.greedy().equals(now.best()) ? 1 : 0;
                case 8 -> pad.length();
                default -> history.size();
            };
        }

        int body(int from, int to) {
            if (noWord(from) || noWord(to) || to < from) return -1001;
            return now.body(now.words.subList(from, to + 1));
        }

        int leastMeasure(int lines) {
            if (out(lines, 1, 24)) return -1002;
            State trial = now.copy();
            for (int measure = 20; measure <= 200; measure++) {
                trial.settings[0] = measure;
                if (trial.greedy().size() <= lines) return measure;
            }
            return -1006;
        }

        int bestShare(int sort) {
            if (out(sort, 0, 7)) return -1001;
            State trial = now.copy();
            int[] badness = new int[101];
            for (int share = 0; share <= 100; share++) {
                trial.face[sort][2] = share;
                badness[share] = trial.badness(trial.best());
            }
            return placeOfLeast(badness);
        }

        int worstWord() {
            int[] badness = new int[now.words.size()];
            for (int word = 0; word < badness.length; word++) {
                State trial = now.copy();
                trial.words.remove(word);
                badness[word] = trial.badness(trial.best());
            }
            return badness.length == 0 ? -1006 : placeOfLeast(badness);
        }

        private static int placeOfLeast(int[] numbers) {
            int least = Arrays.stream(numbers).min().getAsInt();
            for (int place = 0; ; place++) if (numbers[place] == least) return place;
        }

        int put(long characters) {
            StringBuilder more = new StringBuilder();
            long rest = characters;
            while (rest != 0) {
                char code = (char) (rest & 255);
                if (code < 33 || code > 126) return -1002;
                more.insert(0, code);
                rest >>>= 8;
            }
            if (more.length() == 0) return -1002;
            if (pad.length() + more.length() > 60) return -1004;
            return pad.append(more).length();
        }

        int wipe() {
            int before = pad.length();
            pad.setLength(0);
            return before;
        }

        /** The longest beginning of the pad that some text begins with, by a pattern. */
        int fault() {
            String text = pad.toString();
            String word = "[a-z.,;:'!-]{1,10}";
            if (text.matches(word + "(_" + word + ")*")) return -1006;
            for (int length = 1; length <= text.length(); length++) {
                if (!text.substring(0, length).matches("(" + word + "_)*([a-z.,;:'!-]{0,10})")) return length - 1;
            }
            return text.length();
        }

        int undo() {
            if (history.isEmpty()) return -1005;
            now = history.removeLast();
            return history.size();
        }

        int save(int slot) {
            if (out(slot, 0, 1)) return -1002;
            slots[slot] = now.copy();
            return now.words.size();
        }

        int restore(int slot) {
            if (out(slot, 0, 1)) return -1002;
            if (slots[slot] == null) return -1005;
            record();
            now = slots[slot].copy();
            return now.words.size();
        }
    }
}
