import java.util.ArrayDeque;
import java.util.ArrayList;
import java.util.Deque;
import java.util.HashSet;
import java.util.LinkedHashMap;
import java.util.List;
import java.util.Map;
import java.util.Set;
import java.util.regex.Pattern;

/** Long runs of calls, always the same ones, compared with a second mint that is built out of the Java library. */
public final class RandomRuns {
    private static final int RUNS = 3000;
    private static final int CALLS = 512;

    private static int wrong = 0;

    public static void main(String[] args) {
        for (int run = 1; run <= RUNS && wrong < 20; run++) {
            new Run(run).play();
        }
        System.out.println(RUNS + " runs, " + wrong + " wrong");
        if (wrong != 0) {
            System.exit(1);
        }
    }

    private interface Answer {
        long get();
    }

    /** One run of calls on one object. */
    private static final class Run {
        private final int number;
        private final Dice dice;
        private final PluralMint mint = new PluralMint();
        private final Model model = new Model();
        private final StringBuilder told = new StringBuilder();
        private int calls = 0;

        Run(int number) {
            this.number = number;
            this.dice = new Dice(number);
        }

        void play() {
            while (calls < CALLS && wrong < 20) {
                step();
            }
        }

        private void step() {
            switch (dice.below(13)) {
                case 0, 1 -> writeText();
                case 2 -> texts();
                case 3, 4 -> strikeAndMelt();
                case 5 -> actions();
                case 6 -> states();
                case 7, 8 -> nouns();
                case 9 -> counts();
                case 10 -> recalls();
                case 11 -> dies();
                default -> strangeCalls();
            }
        }

        private void writeText() {
            both("clearText()", mint::clearText, model::clearText);
            String text = dice.text(model);
            for (int i = 0; i < text.length(); i++) {
                char sign = text.charAt(i);
                both("type(" + (int) sign + ")", () -> mint.type(sign), () -> model.type(sign));
            }
            both("textError()", mint::textError, model::textError);
            both("impossibleOrder()", mint::impossibleOrder, model::impossibleOrder);
            if (dice.below(4) != 0) {
                both("carryOut()", mint::carryOut, model::carryOut);
            }
            recalls();
        }

        private void texts() {
            both("textError()", mint::textError, model::textError);
            both("impossibleOrder()", mint::impossibleOrder, model::impossibleOrder);
            both("carryOut()", mint::carryOut, model::carryOut);
        }

        private void strikeAndMelt() {
            int noun = dice.below(model.state.nouns.size() + 1);
            int many = dice.below(5) == 0 ? dice.below(102) : 1 + dice.below(9);
            if (dice.below(3) != 0) {
                both("strike(" + noun + ", " + many + ")", () -> mint.strike(noun, many), () -> model.strike(noun, many));
            } else {
                both("melt(" + noun + ", " + many + ")", () -> mint.melt(noun, many), () -> model.melt(noun, many));
            }
            both("heaps()", mint::heaps, () -> model.state.heaps.size());
            both("staleCoins()", mint::staleCoins, model::staleCoins);
        }

        private void actions() {
            int die = dice.below(model.state.dies.size() + 1);
            switch (dice.below(6)) {
                case 0 -> both("meltStale()", mint::meltStale, model::meltStale);
                case 1 -> both("dropIrregular()", mint::dropIrregular, model::dropIrregular);
                case 2 -> both("dropDie(" + die + ")", () -> mint.dropDie(die), () -> model.dropDie(die));
                default -> both("staleCoins()", mint::staleCoins, model::staleCoins);
            }
            counts();
        }

        private void states() {
            switch (dice.below(5)) {
                case 0, 1 -> both("undo()", mint::undo, model::undo);
                case 2 -> both("takeSnapshot()", mint::takeSnapshot, model::takeSnapshot);
                case 3 -> both("restoreSnapshot()", mint::restoreSnapshot, model::restoreSnapshot);
                default -> both("recordedStates()", mint::recordedStates, () -> model.recorded.size());
            }
            counts();
        }

        private void nouns() {
            int noun = dice.below(model.state.nouns.size() + 1) - dice.below(2);
            int place = dice.below(18) - 1;
            int count = dice.below(3) == 0 ? dice.below(10003) - 1 : dice.below(3);
            both("lettersOf(" + noun + ")", () -> mint.lettersOf(noun), () -> model.noun(noun).length());
            both("pluralLetters(" + noun + ")", () -> mint.pluralLetters(noun), () -> model.pluralOf(noun).length());
            both("pluralLetter(" + noun + ", " + place + ")", () -> mint.pluralLetter(noun, place),
                () -> Model.letter(model.pluralOf(noun), place));
            both("countedLetter(" + noun + ", " + count + ", " + place + ")",
                () -> mint.countedLetter(noun, count, place), () -> model.countedLetter(noun, count, place));
            both("isIrregular(" + noun + ")", () -> mint.isIrregular(noun) ? 1 : 0,
                () -> model.state.table.containsKey(model.noun(noun)) ? 1 : 0);
            both("dieFor(" + noun + ")", () -> mint.dieFor(noun), () -> model.dieFor(noun));
            both("coinsOf(" + noun + ")", () -> mint.coinsOf(noun), () -> model.coinsOf(noun));
        }

        private void counts() {
            both("nouns()", mint::nouns, () -> model.state.nouns.size());
            both("dies()", mint::dies, () -> model.state.dies.size());
            both("irregulars()", mint::irregulars, () -> model.state.table.size());
            both("heaps()", mint::heaps, () -> model.state.heaps.size());
            both("coinsByHeaps()", mint::coinsByHeaps, model::coins);
            both("coinsByAccounts()", mint::coinsByAccounts, model::coins);
            both("staleCoins()", mint::staleCoins, model::staleCoins);
            both("recordedStates()", mint::recordedStates, () -> model.recorded.size());
        }

        private void recalls() {
            both("recallByStriking()", mint::recallByStriking, model::recall);
            both("recallByReversing()", mint::recallByReversing, model::recall);
            both("possibleNouns()", mint::possibleNouns, model::possibleNouns);
            both("ambiguousNouns()", mint::ambiguousNouns, model::ambiguousNouns);
        }

        private void dies() {
            int die = dice.below(model.state.dies.size() + 2) - 1;
            both("fitsOf(" + die + ")", () -> mint.fitsOf(die), () -> model.fitsOf(die));
        }

        private void strangeCalls() {
            int[] strange = {Integer.MIN_VALUE, -1, 0, 1, 99, 100, 9999, 10000, Integer.MAX_VALUE};
            int a = strange[dice.below(strange.length)];
            int b = strange[dice.below(strange.length)];
            int c = strange[dice.below(strange.length)];
            both("melt(" + a + ", " + b + ")", () -> mint.melt(a, b), () -> model.melt(a, b));
            both("pluralLetter(" + a + ", " + b + ")", () -> mint.pluralLetter(a, b),
                () -> Model.letter(model.pluralOf(a), b));
            both("countedLetter(" + a + ", " + b + ", " + c + ")", () -> mint.countedLetter(a, b, c),
                () -> model.countedLetter(a, b, c));
            both("fitsOf(" + a + ")", () -> mint.fitsOf(a), () -> model.fitsOf(a));
        }

        private void both(String call, Answer program, Answer due) {
            if (calls >= CALLS) {
                return;
            }
            calls++;
            String got = answer(program);
            String want = answer(due);
            told.append(call).append(' ').append(got).append('\n');
            if (!got.equals(want)) {
                wrong++;
                System.out.println("run " + number + ": " + call + " answered " + got + ", due is " + want);
                if (wrong == 1) {
                    System.out.println("the run was:\n" + told);
                }
            }
        }

        private static String answer(Answer call) {
            try {
                return Long.toString(call.get());
            } catch (RuntimeException e) {
                return e.getClass().getName();
            }
        }
    }

    /** A row of numbers that looks random and is the same in every run. */
    private static final class Dice {
        private long seed;

        Dice(int number) {
            seed = number * 7919L + 17;
            for (int i = 0; i < 8; i++) {
                below(2);
            }
        }

        int below(int bound) {
            seed = seed * 6364136223846793005L + 1442695040888963407L;
            return (int) ((seed >>> 33) % bound);
        }

        String text(Model model) {
            int kind = below(10);
            if (kind == 0 && !model.state.nouns.isEmpty()) {
                return model.pluralOf(below(model.state.nouns.size()));
            }
            if (kind == 1) {
                return letters(1 + below(13));
            }
            StringBuilder orders = new StringBuilder(order());
            int more = below(6);
            for (int i = 0; i < more; i++) {
                orders.append(';').append(order());
            }
            if (kind < 4) {
                orders.setCharAt(below(orders.length()), "ays;=*!?>A".charAt(below(10)));
            }
            if (kind == 4) {
                orders.setLength(below(orders.length() + 1));
            }
            orders.setLength(Math.min(orders.length(), below(30) == 0 ? 62 : 30));
            return orders.toString();
        }

        private String order() {
            return switch (below(5)) {
                case 0 -> word() + "=" + (below(2) == 0 ? word() : word() + "s");
                case 1, 2 -> "*" + new String[] {"", "", "!", "?"}[below(4)] + letters(below(9) / 2) + ">" + letters(1 + below(7) / 2);
                default -> word();
            };
        }

        private String word() {
            return letters(below(20) == 0 ? 9 + below(4) : 1 + below(3));
        }

        private String letters(int many) {
            StringBuilder letters = new StringBuilder();
            for (int i = 0; i < many; i++) {
                letters.append("aysx".charAt(below(4)));
            }
            return letters.toString();
        }
    }

    private record Die(String ending, String addition, String condition) {
        boolean fits(String word) {
            String ahead = condition.equals("!") ? "[a-z]*[^aeiou]" : condition.equals("?") ? "[a-z]*[aeiou]" : "[a-z]*";
            return word.endsWith(ending) && word.substring(0, word.length() - ending.length()).matches(ahead);
        }

        String make(String word) {
            return word.substring(0, word.length() - ending.length()) + addition;
        }
    }

    private record Heap(int noun, String mark, int coins) {
    }

    private static final class ModelState {
        final List<String> nouns = new ArrayList<>();
        final List<Die> dies = new ArrayList<>();
        final Map<String, String> table = new LinkedHashMap<>();
        final List<Heap> heaps = new ArrayList<>();

        ModelState copy() {
            ModelState copy = new ModelState();
            copy.nouns.addAll(nouns);
            copy.dies.addAll(dies);
            copy.table.putAll(table);
            copy.heaps.addAll(heaps);
            return copy;
        }
    }

    /** The second mint. */
    private static final class Model {
        private static final String ORDER = "([a-z]{1,12}|[a-z]{1,12}=[a-z]{1,12}|\\*[!?]?[a-z]{0,4}>[a-z]{1,4})";
        private static final Pattern VALID = Pattern.compile(ORDER + "(;" + ORDER + ")*");

        ModelState state = new ModelState();
        final Deque<ModelState> recorded = new ArrayDeque<>();
        private ModelState snapshot = null;
        private String text = "";

        Model() {
            state.dies.add(new Die("", "s", ""));
        }

        private void record() {
            recorded.addLast(state.copy());
            if (recorded.size() > 4) {
                recorded.removeFirst();
            }
        }

        String noun(int noun) {
            if (noun < 0 || noun >= state.nouns.size()) {
                throw new IndexOutOfBoundsException();
            }
            return state.nouns.get(noun);
        }

        private static void range(int number, int least, int greatest) {
            if (number < least || number > greatest) {
                throw new IllegalArgumentException();
            }
        }

        private static void require(boolean holds) {
            if (!holds) {
                throw new IllegalStateException();
            }
        }

        private int dieOf(String word) {
            int best = -1;
            for (int die = state.dies.size() - 1; die >= 0; die--) {
                Die d = state.dies.get(die);
                if (d.fits(word) && (best == -1 || d.ending.length() > state.dies.get(best).ending.length())) {
                    best = die;
                }
            }
            return best;
        }

        private String plural(String word) {
            return state.table.containsKey(word) ? state.table.get(word) : state.dies.get(dieOf(word)).make(word);
        }

        String pluralOf(int noun) {
            return plural(noun(noun));
        }

        int dieFor(int noun) {
            return state.table.containsKey(noun(noun)) ? -1 : dieOf(noun(noun));
        }

        int coinsOf(int noun) {
            noun(noun);
            return state.heaps.stream().filter(h -> h.noun == noun).mapToInt(Heap::coins).sum();
        }

        int coins() {
            return state.heaps.stream().mapToInt(Heap::coins).sum();
        }

        private boolean isStale(Heap heap) {
            return !heap.mark.equals(pluralOf(heap.noun));
        }

        int staleCoins() {
            return state.heaps.stream().filter(this::isStale).mapToInt(Heap::coins).sum();
        }

        int strike(int noun, int many) {
            String mark = pluralOf(noun);
            range(many, 1, 99);
            int at = -1;
            for (int i = 0; i < state.heaps.size(); i++) {
                if (state.heaps.get(i).noun == noun && state.heaps.get(i).mark.equals(mark)) {
                    at = i;
                }
            }
            require(at >= 0 || state.heaps.size() < 30);
            record();
            if (at >= 0) {
                state.heaps.set(at, new Heap(noun, mark, state.heaps.get(at).coins + many));
            } else {
                state.heaps.add(new Heap(noun, mark, many));
            }
            return coinsOf(noun);
        }

        int melt(int noun, int many) {
            noun(noun);
            range(many, 1, 99);
            require(coinsOf(noun) >= many);
            record();
            for (int coin = 0; coin < many; coin++) {
                meltOne(noun);
            }
            return coinsOf(noun);
        }

        private void meltOne(int noun) {
            int i = 0;
            while (state.heaps.get(i).noun != noun) {
                i++;
            }
            Heap heap = state.heaps.get(i);
            if (heap.coins == 1) {
                state.heaps.remove(i);
            } else {
                state.heaps.set(i, new Heap(noun, heap.mark, heap.coins - 1));
            }
        }

        int meltStale() {
            record();
            int stale = staleCoins();
            state.heaps.removeIf(this::isStale);
            return stale;
        }

        int dropDie(int die) {
            Die dropped = die(die);
            require(die != 0);
            record();
            state.dies.remove(die);
            return dropped == null ? 0 : state.dies.size();
        }

        private Die die(int die) {
            if (die < 0 || die >= state.dies.size()) {
                throw new IndexOutOfBoundsException();
            }
            return state.dies.get(die);
        }

        int dropIrregular() {
            require(!state.table.isEmpty());
            record();
            state.table.remove(new ArrayList<>(state.table.keySet()).get(state.table.size() - 1));
            return state.table.size();
        }

        int type(char sign) {
            require(text.length() < 60);
            text += sign;
            return text.length();
        }

        int clearText() {
            int length = text.length();
            text = "";
            return length;
        }

        int textError() {
            if (VALID.matcher(text).matches()) {
                return -1;
            }
            for (int end = 1; end <= text.length(); end++) {
                if (!canGoOn(text.substring(0, end))) {
                    return end - 1;
                }
            }
            return text.length();
        }

        private static boolean canGoOn(String start) {
            for (String rest : new String[] {"", "a", ">a"}) {
                if (VALID.matcher(start + rest).matches()) {
                    return true;
                }
            }
            return false;
        }

        private static int tryOrders(String text, ModelState into) {
            String[] orders = text.split(";");
            for (int i = 0; i < orders.length; i++) {
                if (!tryOrder(orders[i], into)) {
                    return i;
                }
            }
            return -1;
        }

        private static boolean tryOrder(String order, ModelState into) {
            if (order.startsWith("*")) {
                String condition = order.startsWith("*!") ? "!" : order.startsWith("*?") ? "?" : "";
                String[] parts = order.substring(1 + condition.length()).split(">");
                into.dies.add(new Die(parts[0], parts[1], condition));
                return into.dies.size() <= 12;
            }
            if (order.contains("=")) {
                into.table.put(order.split("=")[0], order.split("=")[1]);
                return into.table.size() <= 10;
            }
            boolean isNew = !into.nouns.contains(order);
            into.nouns.add(order);
            return isNew && into.nouns.size() <= 20;
        }

        int impossibleOrder() {
            require(VALID.matcher(text).matches());
            return tryOrders(text, state.copy());
        }

        int carryOut() {
            require(impossibleOrder() == -1);
            record();
            tryOrders(text, state);
            return text.split(";").length;
        }

        int undo() {
            require(!recorded.isEmpty());
            state = recorded.removeLast();
            return recorded.size();
        }

        int takeSnapshot() {
            snapshot = state.copy();
            return state.nouns.size();
        }

        int restoreSnapshot() {
            require(snapshot != null);
            record();
            state = snapshot.copy();
            return state.nouns.size();
        }

        static char letter(String word, int place) {
            if (place < 0 || place >= word.length()) {
                throw new IndexOutOfBoundsException();
            }
            return word.charAt(place);
        }

        int countedLetter(int noun, int count, int place) {
            noun(noun);
            range(count, 0, 9999);
            return letter(count == 1 ? noun(noun) : pluralOf(noun), place);
        }

        int ambiguousNouns() {
            int ambiguous = 0;
            for (String one : state.nouns) {
                long same = state.nouns.stream().filter(other -> plural(other).equals(plural(one))).count();
                ambiguous += same > 1 ? 1 : 0;
            }
            return ambiguous;
        }

        private void requireWord() {
            require(text.matches("[a-z]{1,12}"));
        }

        int recall() {
            requireWord();
            for (String noun : state.nouns) {
                if (plural(noun).equals(text)) {
                    return state.nouns.indexOf(noun);
                }
            }
            return -1;
        }

        /** Any start of the text with any ending is tried, so that nothing is told by what the dies add. */
        int possibleNouns() {
            requireWord();
            Set<String> words = new HashSet<>(state.table.keySet());
            for (int end = 0; end <= text.length(); end++) {
                for (Die die : state.dies) {
                    words.add(text.substring(0, end) + die.ending);
                }
            }
            words.removeIf(word -> word.isEmpty() || word.length() > 12 || !plural(word).equals(text));
            return words.size();
        }

        int fitsOf(int die) {
            Die d = die(die);
            return (int) state.nouns.stream().filter(d::fits).count();
        }
    }
}
