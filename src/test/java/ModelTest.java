import java.util.ArrayList;
import java.util.HashMap;
import java.util.List;
import java.util.Map;
import java.util.Random;

/**
 * Compares TelegraphDesk with a model that takes the document's words plainly (lists, every way of
 * parting compared with every other one), over runs of calls drawn with fixed seeds.
 */
public final class ModelTest {
    private static final int RUNS = 900;
    // Three calls a change; the look at all answers at the end makes some 190: an object is used for 512 at most.
    private static final int MOST_CHANGES = 100;
    private static final int WORDS_WITH_ALL_WAYS = 9;

    private static int wrong = 0;

    private static void due(String call, Object got, Object want) {
        if (!got.equals(want)) {
            wrong++;
            if (wrong <= 40) {
                System.out.println(call + " answered " + got + ", due is " + want);
            }
        }
    }

    /** What is said of a call: its answer, or the name of its exception. */
    private interface Call {
        long answer();
    }

    private static String said(Call call) {
        try {
            return Long.toString(call.answer());
        } catch (RuntimeException thrown) {
            return thrown.getClass().getName();
        }
    }

    private static final class Model {
        final List<List<Integer>> codes = new ArrayList<>();
        final List<Integer> words = new ArrayList<>();
        int quality = 7;
        int sent;
        int repeats;
        int lost;
        int earned;

        /** The lengths of the groups, by the rule of the document. */
        List<Integer> shortest(List<List<Integer>> book) {
            if (words.size() <= WORDS_WITH_ALL_WAYS) {
                List<List<Integer>> ways = new ArrayList<>();
                allWays(book, 0, new ArrayList<>(), ways);
                List<Integer> best = ways.get(0);
                for (List<Integer> way : ways) {
                    best = isBetter(way, best) ? way : best;
                }
                return best;
            }
            return shortestFrom(book, 0, new HashMap<>());
        }

        void allWays(List<List<Integer>> book, int at, List<Integer> before, List<List<Integer>> ways) {
            if (at == words.size()) {
                ways.add(new ArrayList<>(before));
                return;
            }
            for (int length = 1; length <= 4 && at + length <= words.size(); length++) {
                if (length == 1 || book.contains(words.subList(at, at + length))) {
                    before.add(length);
                    allWays(book, at + length, before, ways);
                    before.remove(before.size() - 1);
                }
            }
        }

        List<Integer> shortestFrom(List<List<Integer>> book, int at, Map<Integer, List<Integer>> known) {
            if (at == words.size()) {
                return new ArrayList<>();
            }
            if (known.containsKey(at)) {
                return known.get(at);
            }
            List<Integer> best = null;
            for (int length = 1; length <= 4 && at + length <= words.size(); length++) {
                if (length == 1 || book.contains(words.subList(at, at + length))) {
                    List<Integer> way = new ArrayList<>(List.of(length));
                    way.addAll(shortestFrom(book, at + length, known));
                    best = best == null || isBetter(way, best) ? way : best;
                }
            }
            known.put(at, best);
            return best;
        }

        static boolean isBetter(List<Integer> way, List<Integer> other) {
            if (way.size() != other.size()) {
                return way.size() < other.size();
            }
            for (int i = 0; i < way.size(); i++) {
                if (!way.get(i).equals(other.get(i))) {
                    return way.get(i) > other.get(i);
                }
            }
            return false;
        }

        /** Rows of code and start. */
        List<int[]> groups() {
            List<int[]> groups = new ArrayList<>();
            int at = 0;
            for (int length : shortest(codes)) {
                int code = length == 1 ? -1 : codes.indexOf(words.subList(at, at + length));
                groups.add(new int[] {code, at});
                at += length;
            }
            return groups;
        }

        int countedWith(List<List<Integer>> book) {
            int at = 0;
            int counted = 0;
            for (int length : shortest(book)) {
                counted += length == 1 && words.get(at) >= 8 ? 2 : 1;
                at += length;
            }
            return counted;
        }

        int costWith(List<List<Integer>> book) {
            if (words.isEmpty()) {
                return 0;
            }
            int counted = countedWith(book);
            return counted <= 10 ? 20 : 20 + (counted - 10) * 3;
        }

        static boolean garbled(int n, int quality) {
            return (n * 7 + n / 10) % 10 >= quality;
        }

        /** Sent, garbled the first time, repeats, lost. */
        int[] passed(int quality) {
            int[] result = {sent, 0, 0, 0};
            for (int i = shortest(codes).size(); i > 0; i--) {
                result[0]++;
                if (!garbled(result[0], quality)) {
                    continue;
                }
                result[1]++;
                boolean through = false;
                for (int repeat = 1; repeat <= 3 && !through; repeat++) {
                    result[0]++;
                    result[2]++;
                    through = !garbled(result[0], quality);
                }
                result[3] += through ? 0 : 1;
            }
            return result;
        }

        long addCode(int... row) {
            List<Integer> code = new ArrayList<>();
            for (int i = 0; i < 4; i++) {
                if (row[i] < (i < 2 ? 0 : -1) || row[i] > 9 || i == 3 && row[3] >= 0 && row[2] < 0) {
                    throw new IllegalArgumentException();
                }
                if (row[i] >= 0) {
                    code.add(row[i]);
                }
            }
            if (codes.size() == 8 || codes.contains(code)) {
                throw new IllegalStateException();
            }
            codes.add(code);
            return codes.size() - 1;
        }

        long write(int type) {
            if (type < 0 || type > 9) {
                throw new IllegalArgumentException();
            }
            if (words.size() == 24) {
                throw new IllegalStateException();
            }
            words.add(type);
            return words.size();
        }

        long send() {
            if (words.isEmpty()) {
                throw new IllegalStateException();
            }
            int[] result = passed(quality);
            earned += costWith(codes);
            sent = result[0];
            repeats += result[2];
            lost += result[3];
            words.clear();
            return result[3];
        }

        long untilGarbled() {
            int n = sent + 1;
            while (!garbled(n, quality)) {
                n++;
            }
            return n - sent;
        }

        long qualityWanted() {
            for (int wanted = 1; wanted <= 9; wanted++) {
                if (passed(wanted)[3] == 0) {
                    return wanted;
                }
            }
            return -1;
        }

        long uselessCode() {
            for (int code = 0; code < codes.size(); code++) {
                List<List<Integer>> others = new ArrayList<>(codes);
                others.remove(code);
                if (shortest(others).size() == shortest(codes).size()) {
                    return code;
                }
            }
            return -1;
        }

        long bestNewCode(int length) {
            if (length < 2 || length > 4) {
                throw new IllegalArgumentException();
            }
            int best = -1;
            int fewest = Integer.MAX_VALUE;
            for (int start = 0; start + length <= words.size(); start++) {
                List<List<Integer>> more = new ArrayList<>(codes);
                more.add(new ArrayList<>(words.subList(start, start + length)));
                int groups = shortest(more).size();
                if (groups < fewest) {
                    fewest = groups;
                    best = start;
                }
            }
            return best;
        }

        long inRange(int number, int size, long answer) {
            if (number < 0 || number >= size) {
                throw new IndexOutOfBoundsException();
            }
            return answer;
        }

        double meanLength() {
            double sum = 0;
            for (List<Integer> code : codes) {
                sum += code.size();
            }
            return codes.isEmpty() ? 0 : sum / codes.size();
        }

        List<Long> numbers() {
            List<Long> all = new ArrayList<>();
            List<int[]> groups = groups();
            int[] result = passed(quality);
            long[] first = {codes.size(), words.size(), groups.size(), countedWith(codes), costWith(codes),
                costWith(List.of()) - costWith(codes), sent, repeats, lost, earned, untilGarbled(), result[1],
                result[2], qualityWanted(), uselessCode(), bestNewCode(2), bestNewCode(3), bestNewCode(4)};
            for (long number : first) {
                all.add(number);
            }
            for (int code = 0; code < codes.size(); code++) {
                all.add((long) codes.get(code).size());
                all.add(uses(groups, code));
            }
            for (int word : words) {
                all.add((long) word);
            }
            for (int[] group : groups) {
                all.add((long) group[0]);
                all.add((long) group[1]);
            }
            return all;
        }

        static long uses(List<int[]> groups, int code) {
            return groups.stream().filter(group -> group[0] == code).count();
        }

        long digest() {
            long sum = 2143;
            for (long number : numbers()) {
                sum = sum * 31 + number;
            }
            return sum;
        }
    }

    private static List<Long> numbers(TelegraphDesk desk) {
        List<Long> all = new ArrayList<>();
        long[] first = {desk.codes(), desk.words(), desk.groups(), desk.counted(), desk.cost(), desk.saved(),
            desk.sentGroups(), desk.repeats(), desk.lost(), desk.earned(), desk.untilGarbled(),
            desk.wouldBeGarbled(), desk.repeatsIfSent(), desk.qualityWanted(), desk.uselessCode(),
            desk.bestNewCode(2), desk.bestNewCode(3), desk.bestNewCode(4)};
        for (long number : first) {
            all.add(number);
        }
        for (int code = 0; code < desk.codes(); code++) {
            all.add((long) desk.lengthOf(code));
            all.add((long) desk.usesOf(code));
        }
        for (int word = 0; word < desk.words(); word++) {
            all.add((long) desk.typeOf(word));
        }
        for (int group = 0; group < desk.groups(); group++) {
            all.add((long) desk.codeOf(group));
            all.add((long) desk.startOf(group));
        }
        return all;
    }

    private static int near(Random random, int bound) {
        return random.nextInt(40) == 0 ? random.nextInt(bound + 6) - 3 : random.nextInt(bound);
    }

    private static String change(TelegraphDesk desk, Model model, Random random, int types) {
        int a = near(random, types);
        int b = near(random, types);
        int c = random.nextInt(3) == 0 ? -1 : near(random, types);
        int d = c == -1 || random.nextInt(2) == 0 ? -1 : near(random, types);
        int small = random.nextInt(11) - 1;
        int kind = random.nextInt(100);
        if (kind < 55) {
            due("write(" + a + ")", said(() -> desk.write(a)), said(() -> model.write(a)));
            return "write(" + a + ")";
        }
        if (kind < 75) {
            due("addCode", said(() -> desk.addCode(a, b, c, d)), said(() -> model.addCode(a, b, c, d)));
            return "addCode(" + a + ", " + b + ", " + c + ", " + d + ")";
        }
        if (kind < 82) {
            due("dropCode(" + small + ")", said(() -> desk.dropCode(small)), said(() -> {
                model.inRange(small, model.codes.size(), 0);
                return model.codes.remove(small).size();
            }));
            return "dropCode(" + small + ")";
        }
        if (kind < 89) {
            due("setQuality(" + small + ")", said(() -> desk.setQuality(small)), said(() -> {
                if (small < 1 || small > 9) {
                    throw new IllegalArgumentException();
                }
                int before = model.quality;
                model.quality = small;
                return before;
            }));
            return "setQuality(" + small + ")";
        }
        if (kind < 95) {
            due("strike()", said(() -> desk.strike()), said(() -> {
                if (model.words.isEmpty()) {
                    throw new IllegalStateException();
                }
                return model.words.remove(model.words.size() - 1);
            }));
            return "strike()";
        }
        if (kind < 99) {
            due("send()", said(() -> desk.send()), said(() -> model.send()));
            return "send()";
        }
        int had = model.words.size();
        model.words.clear();
        due("clear()", (long) desk.clear(), (long) had);
        return "clear()";
    }

    private static void compare(String what, TelegraphDesk desk, Model model) {
        due(what + ": the numbers", numbers(desk), model.numbers());
        List<int[]> groups = model.groups();
        for (int number : new int[] {-1, 0, 1, 4, 8, groups.size() - 1, groups.size(), model.words.size()}) {
            int size = model.codes.size();
            due(what + ": lengthOf(" + number + ")", said(() -> desk.lengthOf(number)),
                    said(() -> model.inRange(number, size, 0) + model.codes.get(number).size()));
            due(what + ": usesOf(" + number + ")", said(() -> desk.usesOf(number)),
                    said(() -> model.inRange(number, size, 0) + Model.uses(groups, number)));
            due(what + ": typeOf(" + number + ")", said(() -> desk.typeOf(number)),
                    said(() -> model.inRange(number, model.words.size(), 0) + model.words.get(number)));
            due(what + ": codeOf(" + number + ")", said(() -> desk.codeOf(number)),
                    said(() -> model.inRange(number, groups.size(), 0) + groups.get(number)[0]));
            due(what + ": startOf(" + number + ")", said(() -> desk.startOf(number)),
                    said(() -> model.inRange(number, groups.size(), 0) + groups.get(number)[1]));
        }
    }

    public static void main(String[] args) {
        for (int run = 0; run < RUNS; run++) {
            Random random = new Random(run);
            int types = run % 5 == 0 ? 10 : 1 + run % 5;
            TelegraphDesk desk = new TelegraphDesk();
            Model model = new Model();
            int changes = 1 + run % MOST_CHANGES;
            for (int call = 1; call <= changes; call++) {
                String what = "run " + run + ", change " + call + ", " + change(desk, model, random, types);
                due(what + ": digest()", desk.digest(), model.digest());
                due(what + ": meanLength()", desk.meanLength(), model.meanLength());
            }
            compare("run " + run + ", at its end", desk, model);
        }
        System.out.println(wrong == 0 ? "the desk answers as the model does" : wrong + " answers are not as due");
        if (wrong != 0) {
            System.exit(1);
        }
    }
}
