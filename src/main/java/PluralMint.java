/** A mint that strikes the plurals of nouns as coins, by dies and by a table of irregular words. */
public final class PluralMint {
    public static final int NONE = -1;

    private static final int MOST_NOUNS = 20;
    private static final int MOST_DIES = 12;
    private static final int MOST_IRREGULARS = 10;
    private static final int MOST_HEAPS = 30;
    private static final int MOST_RECORDED = 4;
    private static final int MOST_STRUCK = 99;
    private static final int GREATEST_COUNT = 9999;

    private static final int LONGEST_WORD = 12;
    private static final int LONGEST_ENDING = 4;
    private static final int LONGEST_PLURAL = 16;
    private static final int LONGEST_TEXT = 60;

    private final OrderText text = new OrderText();
    private final State now = new State();
    private final State snapshot = new State();
    private boolean hasSnapshot;
    private final History history = new History();

    // These rows are made once and used again by every call, so that no call makes objects.
    private final State trial = new State();
    private final Order order = new Order();
    private final Word wanted = new Word();
    private final Word plural = new Word();
    private final Word origin = new Word();
    private final Words plurals = new Words(MOST_NOUNS, LONGEST_PLURAL);
    private final Words origins = new Words(MOST_IRREGULARS + MOST_DIES, LONGEST_WORD);

    public PluralMint() {
        now.addFirstDie();
    }

    // ---- actions

    public int strike(int noun, int many)
            throws IndexOutOfBoundsException, IllegalArgumentException, IllegalStateException {
        checkNoun(noun);
        checkMany(many);
        now.loadPlural(noun, plural);
        int heap = now.heaps.find(noun, plural);
        if (heap == NONE && now.heaps.isFull()) {
            throw new IllegalStateException("there would be too many heaps");
        }
        history.record(now);
        if (heap == NONE) {
            now.heaps.open(noun, plural, many);
        } else {
            now.heaps.enlarge(heap, many);
        }
        now.struck += many;
        return now.heaps.coinsWith(noun);
    }

    public int melt(int noun, int many)
            throws IndexOutOfBoundsException, IllegalArgumentException, IllegalStateException {
        checkNoun(noun);
        checkMany(many);
        if (now.heaps.coinsWith(noun) < many) {
            throw new IllegalStateException("the noun has fewer coins");
        }
        history.record(now);
        now.heaps.takeOldest(noun, many);
        now.melted += many;
        return now.heaps.coinsWith(noun);
    }

    public int meltStale() {
        history.record(now);
        int gone = 0;
        for (int heap = 0; heap < now.heaps.count(); heap++) {
            if (now.isStale(heap, plural)) {
                gone += now.heaps.coinsIn(heap);
                now.heaps.empty(heap);
            }
        }
        now.heaps.removeEmpty();
        now.melted += gone;
        return gone;
    }

    public int dropDie(int die) throws IndexOutOfBoundsException, IllegalStateException {
        checkDie(die);
        if (die == 0) {
            throw new IllegalStateException("die 0 stays");
        }
        history.record(now);
        now.dies.remove(die);
        return now.dies.count();
    }

    public int dropIrregular() throws IllegalStateException {
        int last = now.irregularWords.count() - 1;
        if (last < 0) {
            throw new IllegalStateException("the table is empty");
        }
        history.record(now);
        now.irregularWords.remove(last);
        now.irregularPlurals.remove(last);
        return now.irregularWords.count();
    }

    // ---- order texts

    public int type(char character) throws IllegalStateException {
        if (text.isFull()) {
            throw new IllegalStateException("the text is full");
        }
        text.append(character);
        return text.length();
    }

    public int clearText() {
        int length = text.length();
        text.clear();
        return length;
    }

    public int textError() {
        return text.firstError();
    }

    public int impossibleOrder() throws IllegalStateException {
        checkTextIsValid();
        return tryOrders();
    }

    public int carryOut() throws IllegalStateException {
        checkTextIsValid();
        if (tryOrders() != NONE) {
            throw new IllegalStateException("an order cannot be carried out");
        }
        history.record(now);
        now.copyFrom(trial);
        return text.orders();
    }

    // ---- undo, snapshot

    public int undo() throws IllegalStateException {
        if (history.count() == 0) {
            throw new IllegalStateException("no state is recorded");
        }
        history.giveBack(now);
        return history.count();
    }

    public int takeSnapshot() {
        snapshot.copyFrom(now);
        hasSnapshot = true;
        return now.nouns.count();
    }

    public int restoreSnapshot() throws IllegalStateException {
        if (!hasSnapshot) {
            throw new IllegalStateException("there is no snapshot");
        }
        history.record(now);
        now.copyFrom(snapshot);
        return now.nouns.count();
    }

    // ---- nouns and plurals

    public int nouns() {
        return now.nouns.count();
    }

    public int lettersOf(int noun) throws IndexOutOfBoundsException {
        checkNoun(noun);
        return now.nouns.lengthOf(noun);
    }

    public int pluralLetters(int noun) throws IndexOutOfBoundsException {
        checkNoun(noun);
        now.loadPlural(noun, plural);
        return plural.length();
    }

    public char pluralLetter(int noun, int place) throws IndexOutOfBoundsException {
        checkNoun(noun);
        now.loadPlural(noun, plural);
        checkPlace(place, plural);
        return plural.letter(place);
    }

    public char countedLetter(int noun, int count, int place)
            throws IndexOutOfBoundsException, IllegalArgumentException {
        checkNoun(noun);
        checkCount(count);
        if (count == 1) {
            now.nouns.load(noun, wanted);
        } else {
            now.loadPlural(noun, wanted);
        }
        checkPlace(place, wanted);
        return wanted.letter(place);
    }

    public boolean isIrregular(int noun) throws IndexOutOfBoundsException {
        checkNoun(noun);
        now.nouns.load(noun, wanted);
        return now.irregularWords.find(wanted) != NONE;
    }

    public int dieFor(int noun) throws IndexOutOfBoundsException {
        checkNoun(noun);
        now.nouns.load(noun, wanted);
        return now.irregularWords.find(wanted) != NONE ? NONE : now.dies.choose(wanted);
    }

    public int ambiguousNouns() {
        plurals.clear();
        for (int noun = 0; noun < now.nouns.count(); noun++) {
            now.loadPlural(noun, plural);
            plurals.add(plural);
        }
        int ambiguous = 0;
        for (int noun = 0; noun < plurals.count(); noun++) {
            plurals.load(noun, plural);
            if (plurals.countOf(plural) > 1) {
                ambiguous++;
            }
        }
        return ambiguous;
    }

    public int recallByStriking() throws IllegalStateException {
        loadWantedPlural();
        for (int noun = 0; noun < now.nouns.count(); noun++) {
            now.loadPlural(noun, plural);
            if (plural.isSame(wanted)) {
                return noun;
            }
        }
        return NONE;
    }

    public int recallByReversing() throws IllegalStateException {
        loadWantedPlural();
        collectOrigins();
        int first = NONE;
        for (int row = 0; row < origins.count(); row++) {
            origins.load(row, origin);
            int noun = now.nouns.find(origin);
            if (noun != NONE && (first == NONE || noun < first)) {
                first = noun;
            }
        }
        return first;
    }

    public int possibleNouns() throws IllegalStateException {
        loadWantedPlural();
        collectOrigins();
        return origins.count();
    }

    // ---- dies, irregular words, coins

    public int dies() {
        return now.dies.count();
    }

    public int irregulars() {
        return now.irregularWords.count();
    }

    public int fitsOf(int die) throws IndexOutOfBoundsException {
        checkDie(die);
        int fitting = 0;
        for (int noun = 0; noun < now.nouns.count(); noun++) {
            now.nouns.load(noun, wanted);
            if (now.dies.fits(die, wanted)) {
                fitting++;
            }
        }
        return fitting;
    }

    public int coinsOf(int noun) throws IndexOutOfBoundsException {
        checkNoun(noun);
        return now.heaps.coinsWith(noun);
    }

    public int heaps() {
        return now.heaps.count();
    }

    public int staleCoins() {
        int stale = 0;
        for (int heap = 0; heap < now.heaps.count(); heap++) {
            if (now.isStale(heap, plural)) {
                stale += now.heaps.coinsIn(heap);
            }
        }
        return stale;
    }

    public int coinsByHeaps() {
        int coins = 0;
        for (int heap = 0; heap < now.heaps.count(); heap++) {
            coins += now.heaps.coinsIn(heap);
        }
        return coins;
    }

    public int coinsByAccounts() {
        return now.struck - now.melted;
    }

    public int recordedStates() {
        return history.count();
    }

    // ---- what the calls share

    private void checkNoun(int noun) {
        if (noun < 0 || noun >= now.nouns.count()) {
            throw new IndexOutOfBoundsException("no such noun");
        }
    }

    private void checkDie(int die) {
        if (die < 0 || die >= now.dies.count()) {
            throw new IndexOutOfBoundsException("no such die");
        }
    }

    private static void checkPlace(int place, Word word) {
        if (place < 0 || place >= word.length()) {
            throw new IndexOutOfBoundsException("no such letter");
        }
    }

    private static void checkMany(int many) {
        if (many < 1 || many > MOST_STRUCK) {
            throw new IllegalArgumentException("many is out of range");
        }
    }

    private static void checkCount(int count) {
        if (count < 0 || count > GREATEST_COUNT) {
            throw new IllegalArgumentException("count is out of range");
        }
    }

    private void checkTextIsValid() {
        if (text.firstError() != NONE) {
            throw new IllegalStateException("the text is not valid");
        }
    }

    private void loadWantedPlural() {
        if (!text.isWord()) {
            throw new IllegalStateException("the text is not a single word");
        }
        text.load(wanted);
    }

    /** Carries out the orders on the trial state; answers the first impossible one, or NONE. */
    private int tryOrders() {
        trial.copyFrom(now);
        int orders = text.orders();
        int place = 0;
        for (int number = 0; number < orders; number++) {
            place = text.read(place, order);
            if (!trial.accept(order)) {
                return number;
            }
        }
        return NONE;
    }

    /** Collects the words whose plural is the wanted word, told by reversing. */
    private void collectOrigins() {
        origins.clear();
        for (int row = 0; row < now.irregularWords.count(); row++) {
            if (now.irregularPlurals.isSame(row, wanted)) {
                now.irregularWords.load(row, origin);
                origins.add(origin);
            }
        }
        for (int die = 0; die < now.dies.count(); die++) {
            origin.copyFrom(wanted);
            if (now.dies.reverse(die, origin)) {
                plural.copyFrom(origin);
                now.makePlural(plural);
                // Several dies can lead back to one word, which counts once.
                if (plural.isSame(wanted) && origins.find(origin) == NONE) {
                    origins.add(origin);
                }
            }
        }
    }

    private static boolean isSmallLetter(char sign) {
        return sign >= 'a' && sign <= 'z';
    }

    /** Moves what stands after the place one place down. */
    private static void closeGap(int[] row, int place) {
        for (int i = Math.max(0, place); i < row.length - 1; i++) {
            row[i] = row[i + 1];
        }
    }

    private static void copyNumbers(int[] from, int[] to) {
        System.arraycopy(from, 0, to, 0, Math.min(from.length, to.length));
    }

    /** One word or plural, to work on. */
    private static final class Word {
        private final char[] letters = new char[LONGEST_PLURAL];
        private int length;

        int length() {
            return length;
        }

        char letter(int place) {
            boolean isThere = place >= 0 && place < length && place < letters.length;
            return isThere ? letters[place] : (char) 0;
        }

        void clear() {
            length = 0;
        }

        void append(char letter) {
            if (length >= 0 && length < letters.length) {
                letters[length] = letter;
                length++;
            }
        }

        void shorten(int by) {
            length = Math.max(0, length - by);
        }

        boolean isSame(Word other) {
            if (length != other.length) {
                return false;
            }
            for (int place = 0; place < length; place++) {
                if (letter(place) != other.letter(place)) {
                    return false;
                }
            }
            return true;
        }

        void copyFrom(Word other) {
            System.arraycopy(other.letters, 0, letters, 0, Math.min(other.letters.length, letters.length));
            length = other.length;
        }
    }

    /** A list of words in the order in which they came, their letters side by side in one array. */
    private static final class Words {
        private final int width;
        private final char[] letters;
        private final int[] lengths;
        private int count;

        Words(int rows, int width) {
            this.width = Math.max(0, width);
            this.letters = new char[Math.max(0, rows * width)];
            this.lengths = new int[Math.max(0, rows)];
        }

        int count() {
            return count;
        }

        boolean isFull() {
            return count >= lengths.length;
        }

        int lengthOf(int row) {
            return row >= 0 && row < count && row < lengths.length ? lengths[row] : 0;
        }

        char letterOf(int row, int place) {
            int index = row * width + place;
            return index >= 0 && index < letters.length ? letters[index] : (char) 0;
        }

        void clear() {
            count = 0;
        }

        /** Answers false, and adds nothing, if there is no room. */
        boolean add(Word word) {
            if (isFull()) {
                return false;
            }
            count++;
            put(count - 1, word);
            return true;
        }

        void put(int row, Word word) {
            if (row < 0 || row >= count || row >= lengths.length) {
                return;
            }
            lengths[row] = Math.min(word.length(), width);
            for (int place = 0; place < width; place++) {
                int index = row * width + place;
                if (index >= 0 && index < letters.length) {
                    letters[index] = word.letter(place);
                }
            }
        }

        void remove(int row) {
            if (row < 0 || row >= count) {
                return;
            }
            for (int index = row * width; index < letters.length - width; index++) {
                if (index >= 0) {
                    letters[index] = letters[index + width];
                }
            }
            closeGap(lengths, row);
            count--;
        }

        void load(int row, Word into) {
            into.clear();
            appendTo(row, into);
        }

        void appendTo(int row, Word word) {
            int length = lengthOf(row);
            for (int place = 0; place < length; place++) {
                word.append(letterOf(row, place));
            }
        }

        boolean isSame(int row, Word word) {
            return lengthOf(row) == word.length() && isEndOf(row, word);
        }

        boolean isEndOf(int row, Word word) {
            int length = lengthOf(row);
            int start = word.length() - length;
            if (start < 0) {
                return false;
            }
            for (int place = 0; place < length; place++) {
                if (letterOf(row, place) != word.letter(start + place)) {
                    return false;
                }
            }
            return true;
        }

        int find(Word word) {
            for (int row = 0; row < count; row++) {
                if (isSame(row, word)) {
                    return row;
                }
            }
            return NONE;
        }

        int countOf(Word word) {
            int found = 0;
            for (int row = 0; row < count; row++) {
                if (isSame(row, word)) {
                    found++;
                }
            }
            return found;
        }

        void copyFrom(Words other) {
            System.arraycopy(other.letters, 0, letters, 0, Math.min(other.letters.length, letters.length));
            copyNumbers(other.lengths, lengths);
            count = other.count;
        }
    }

    /** The dies: their endings, what they add, and their conditions. */
    private static final class Dies {
        private static final int NO_CONDITION = 0;
        private static final int CONSONANT_AHEAD = 1;
        private static final int VOWEL_AHEAD = 2;

        private final Words endings = new Words(MOST_DIES, LONGEST_ENDING);
        private final Words additions = new Words(MOST_DIES, LONGEST_ENDING);
        private final int[] conditions = new int[MOST_DIES];

        int count() {
            return endings.count();
        }

        /** Answers false, and adds nothing, if there is no room. */
        boolean add(Word ending, Word addition, int condition) {
            int die = count();
            if (die < 0 || die >= conditions.length) {
                return false;
            }
            conditions[die] = condition;
            return endings.add(ending) && additions.add(addition);
        }

        void remove(int die) {
            endings.remove(die);
            additions.remove(die);
            closeGap(conditions, die);
        }

        boolean fits(int die, Word word) {
            return endings.isEndOf(die, word) && meetsCondition(die, word);
        }

        private boolean meetsCondition(int die, Word word) {
            int condition = die >= 0 && die < conditions.length ? conditions[die] : NO_CONDITION;
            int ahead = word.length() - endings.lengthOf(die) - 1;
            if (condition == NO_CONDITION) {
                return true;
            }
            return ahead >= 0 && isVowel(word.letter(ahead)) == (condition == VOWEL_AHEAD);
        }

        private static boolean isVowel(char letter) {
            return letter == 'a' || letter == 'e' || letter == 'i' || letter == 'o' || letter == 'u';
        }

        int choose(Word word) {
            // Die 0 fits every word, so that there is always one.
            int chosen = 0;
            for (int die = 1; die < count(); die++) {
                if (endings.lengthOf(die) >= endings.lengthOf(chosen) && fits(die, word)) {
                    chosen = die;
                }
            }
            return chosen;
        }

        void press(int die, Word word) {
            word.shorten(endings.lengthOf(die));
            additions.appendTo(die, word);
        }

        /** Makes of a plural what the die has made it of, as if it had; answers whether that is a word. */
        boolean reverse(int die, Word plural) {
            if (!additions.isEndOf(die, plural)) {
                return false;
            }
            plural.shorten(additions.lengthOf(die));
            endings.appendTo(die, plural);
            return plural.length() >= 1 && plural.length() <= LONGEST_WORD;
        }

        void copyFrom(Dies other) {
            endings.copyFrom(other.endings);
            additions.copyFrom(other.additions);
            copyNumbers(other.conditions, conditions);
        }
    }

    /** The heaps of coins, the oldest first. */
    private static final class Heaps {
        private final Words marks = new Words(MOST_HEAPS, LONGEST_PLURAL);
        private final int[] owners = new int[MOST_HEAPS];
        private final int[] coins = new int[MOST_HEAPS];

        int count() {
            return marks.count();
        }

        boolean isFull() {
            return marks.isFull();
        }

        int ownerOf(int heap) {
            return heap >= 0 && heap < owners.length ? owners[heap] : NONE;
        }

        int coinsIn(int heap) {
            return heap >= 0 && heap < coins.length ? coins[heap] : 0;
        }

        boolean bears(int heap, Word word) {
            return marks.isSame(heap, word);
        }

        int find(int noun, Word mark) {
            for (int heap = 0; heap < count(); heap++) {
                if (ownerOf(heap) == noun && bears(heap, mark)) {
                    return heap;
                }
            }
            return NONE;
        }

        int coinsWith(int noun) {
            int sum = 0;
            for (int heap = 0; heap < count(); heap++) {
                if (ownerOf(heap) == noun) {
                    sum += coinsIn(heap);
                }
            }
            return sum;
        }

        void open(int noun, Word mark, int many) {
            int heap = count();
            if (heap >= 0 && heap < owners.length && heap < coins.length) {
                marks.add(mark);
                owners[heap] = noun;
                coins[heap] = many;
            }
        }

        void enlarge(int heap, int many) {
            if (heap >= 0 && heap < coins.length) {
                coins[heap] += many;
            }
        }

        void empty(int heap) {
            if (heap >= 0 && heap < coins.length) {
                coins[heap] = 0;
            }
        }

        void takeOldest(int noun, int many) {
            int left = many;
            for (int heap = 0; heap < count(); heap++) {
                if (ownerOf(heap) == noun) {
                    int taken = Math.min(left, coinsIn(heap));
                    enlarge(heap, -taken);
                    left -= taken;
                }
            }
            removeEmpty();
        }

        void removeEmpty() {
            for (int heap = count() - 1; heap >= 0; heap--) {
                if (coinsIn(heap) == 0) {
                    marks.remove(heap);
                    closeGap(owners, heap);
                    closeGap(coins, heap);
                }
            }
        }

        void copyFrom(Heaps other) {
            marks.copyFrom(other.marks);
            copyNumbers(other.owners, owners);
            copyNumbers(other.coins, coins);
        }
    }

    /** All that undo and the snapshot bring back. */
    private static final class State {
        private final Words nouns = new Words(MOST_NOUNS, LONGEST_WORD);
        private final Words irregularWords = new Words(MOST_IRREGULARS, LONGEST_WORD);
        private final Words irregularPlurals = new Words(MOST_IRREGULARS, LONGEST_WORD);
        private final Dies dies = new Dies();
        private final Heaps heaps = new Heaps();
        private int struck;
        private int melted;

        void addFirstDie() {
            Word ending = new Word();
            Word addition = new Word();
            addition.append('s');
            dies.add(ending, addition, Dies.NO_CONDITION);
        }

        void loadPlural(int noun, Word into) {
            nouns.load(noun, into);
            makePlural(into);
        }

        /** Makes the plural of the word in its place. */
        void makePlural(Word word) {
            int row = irregularWords.find(word);
            if (row != NONE) {
                irregularPlurals.load(row, word);
            } else {
                dies.press(dies.choose(word), word);
            }
        }

        boolean isStale(int heap, Word plural) {
            nouns.load(heaps.ownerOf(heap), plural);
            makePlural(plural);
            return !heaps.bears(heap, plural);
        }

        /** Carries out an order; answers false, and changes nothing, if it is impossible. */
        boolean accept(Order order) {
            if (order.kind == Order.DIE) {
                return dies.add(order.first, order.second, order.condition);
            }
            if (order.kind == Order.NOUN) {
                return nouns.find(order.first) == NONE && nouns.add(order.first);
            }
            int row = irregularWords.find(order.first);
            if (row == NONE) {
                return irregularWords.add(order.first) && irregularPlurals.add(order.second);
            }
            irregularPlurals.put(row, order.second);
            return true;
        }

        void copyFrom(State other) {
            nouns.copyFrom(other.nouns);
            irregularWords.copyFrom(other.irregularWords);
            irregularPlurals.copyFrom(other.irregularPlurals);
            dies.copyFrom(other.dies);
            heaps.copyFrom(other.heaps);
            struck = other.struck;
            melted = other.melted;
        }
    }

    /** The latest recorded states, the oldest first. */
    private static final class History {
        private final State[] states = new State[MOST_RECORDED];
        private int count;

        History() {
            for (int i = 0; i < states.length; i++) {
                states[i] = new State();
            }
        }

        int count() {
            return count;
        }

        void record(State now) {
            if (count >= states.length) {
                moveOldestToEnd();
                count = states.length - 1;
            }
            if (count >= 0 && count < states.length && states[count] != null) {
                states[count].copyFrom(now);
                count++;
            }
        }

        private void moveOldestToEnd() {
            for (int i = 0; i < states.length - 1; i++) {
                State older = states[i];
                states[i] = states[i + 1];
                states[i + 1] = older;
            }
        }

        void giveBack(State into) {
            int last = count - 1;
            if (last >= 0 && last < states.length && states[last] != null) {
                into.copyFrom(states[last]);
                count = last;
            }
        }
    }

    /** One order, read out of a valid text. */
    private static final class Order {
        private static final int NOUN = 0;
        private static final int IRREGULAR = 1;
        private static final int DIE = 2;

        private int kind;
        private int condition;
        private boolean inSecond;
        /** The noun, the irregular word, or the ending. */
        private final Word first = new Word();
        /** The plural of the irregular word, or what the die adds. */
        private final Word second = new Word();

        void clear() {
            kind = NOUN;
            condition = Dies.NO_CONDITION;
            inSecond = false;
            first.clear();
            second.clear();
        }

        void take(char sign) {
            if (isSmallLetter(sign)) {
                takeLetter(sign);
            } else if (sign == '*') {
                kind = DIE;
            } else if (sign == '!') {
                condition = Dies.CONSONANT_AHEAD;
            } else if (sign == '?') {
                condition = Dies.VOWEL_AHEAD;
            } else if (sign == '>') {
                inSecond = true;
            } else if (sign == '=') {
                kind = IRREGULAR;
                inSecond = true;
            }
        }

        private void takeLetter(char letter) {
            if (inSecond) {
                second.append(letter);
            } else {
                first.append(letter);
            }
        }
    }

    /** The order text. */
    private static final class OrderText {
        private final char[] signs = new char[LONGEST_TEXT];
        private int length;
        private final Grammar grammar = new Grammar();

        int length() {
            return length;
        }

        boolean isFull() {
            return length >= signs.length;
        }

        void append(char sign) {
            if (length >= 0 && length < signs.length) {
                signs[length] = sign;
                length++;
            }
        }

        void clear() {
            length = 0;
        }

        private char sign(int place) {
            return place >= 0 && place < length && place < signs.length ? signs[place] : (char) 0;
        }

        int firstError() {
            grammar.start();
            for (int place = 0; place < length; place++) {
                if (!grammar.take(sign(place))) {
                    return place;
                }
            }
            return grammar.mayEnd() ? NONE : length;
        }

        int orders() {
            int orders = 1;
            for (int place = 0; place < length; place++) {
                if (sign(place) == ';') {
                    orders++;
                }
            }
            return orders;
        }

        /** Reads the order that begins at the place; answers where the next one begins. */
        int read(int start, Order order) {
            order.clear();
            int place = start;
            while (place < length && sign(place) != ';') {
                order.take(sign(place));
                place++;
            }
            return place + 1;
        }

        boolean isWord() {
            for (int place = 0; place < length; place++) {
                if (!isSmallLetter(sign(place))) {
                    return false;
                }
            }
            return length >= 1 && length <= LONGEST_WORD;
        }

        void load(Word into) {
            into.clear();
            for (int place = 0; place < length; place++) {
                into.append(sign(place));
            }
        }
    }

    /** Follows a text sign by sign, and tells which signs a valid text can have. */
    private static final class Grammar {
        private static final int NO_PART = -1;
        private static final int ORDER_START = 0;
        private static final int WORD = 1;
        private static final int PLURAL = 2;
        private static final int DIE_START = 3;
        private static final int ENDING = 4;
        private static final int ADDITION = 5;

        private int part;
        private int letters;

        void start() {
            part = ORDER_START;
            letters = 0;
        }

        /** Answers whether a valid text can have this sign here. */
        boolean take(char sign) {
            if (isSmallLetter(sign)) {
                return takeLetter();
            }
            int next = partAfter(sign);
            if (next == NO_PART) {
                return false;
            }
            part = next;
            letters = 0;
            return true;
        }

        boolean mayEnd() {
            return part == WORD || (part == PLURAL || part == ADDITION) && letters > 0;
        }

        private boolean takeLetter() {
            if (part == ORDER_START) {
                part = WORD;
            } else if (part == DIE_START) {
                part = ENDING;
            }
            letters++;
            return letters <= (part == WORD || part == PLURAL ? LONGEST_WORD : LONGEST_ENDING);
        }

        private int partAfter(char sign) {
            if (sign == ';') {
                return mayEnd() ? ORDER_START : NO_PART;
            }
            if (sign == '=') {
                return part == WORD ? PLURAL : NO_PART;
            }
            if (sign == '*') {
                return part == ORDER_START ? DIE_START : NO_PART;
            }
            if (sign == '!' || sign == '?') {
                return part == DIE_START ? ENDING : NO_PART;
            }
            if (sign == '>') {
                return part == DIE_START || part == ENDING ? ADDITION : NO_PART;
            }
            return NO_PART;
        }
    }
}
