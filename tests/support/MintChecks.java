/** What the tests of the mint share: checks that count and tell what is wrong, and mints made ready for them. */
abstract class MintChecks {
    static final Class<?> INDEX = IndexOutOfBoundsException.class;
    static final Class<?> ARGUMENT = IllegalArgumentException.class;
    static final Class<?> STATE = IllegalStateException.class;
    static final int NONE = PluralMint.NONE;
    static final int LEAST = Integer.MIN_VALUE;
    static final int GREATEST = Integer.MAX_VALUE;

    /** One fault can make thousands of checks wrong, which would hide the first ones. */
    private static final int MOST_TOLD = 100;

    private static int wrong = 0;
    private static int checked = 0;
    private static String sentence = "";

    interface Call {
        void run();
    }

    /** A call that asks for a number: of a noun, of a die, how many. */
    interface NumberCall {
        void on(PluralMint m, int number);
    }

    /** What is checked from here on is what this sentence of the document says; a failed check tells it. */
    static void says(String heading, String words) {
        DocSentences.quote(heading, words);
        sentence = heading + ", \"" + words + "\": ";
    }

    /** Every sentence of the document below a heading that begins so has to have a test by now. */
    static void saidAllBelow(String headingStart) {
        sentence = "";
        DocSentences.faultsBelow(headingStart).forEach(MintChecks::fail);
        checked++;
    }

    static void finish() {
        System.out.println(checked + " checks, " + wrong + " wrong");
        if (wrong != 0) {
            System.exit(1);
        }
    }

    // ---- checks

    static void due(String what, long got, long want) {
        if (got != want) {
            fail(what + ": answered " + got + ", due is " + want);
        }
        checked++;
    }

    static void same(String what, String got, String want) {
        if (!got.equals(want)) {
            fail(what + ": answered " + got + ", due is " + want);
        }
        checked++;
    }

    static void holds(String what, boolean isSo) {
        if (!isSo) {
            fail(what + ": is not so");
        }
        checked++;
    }

    /** The call must throw exactly this class; with null, any of the three that the document names. */
    static void throwsDue(String what, Class<?> want, Call call) {
        Class<?> got = thrownBy(call);
        boolean isNamed = got == INDEX || got == ARGUMENT || got == STATE;
        if (want == null ? !isNamed : got != want) {
            fail(what + ": threw " + got + ", due is " + want);
        }
        checked++;
    }

    static void noThrowDue(String what, Call call) {
        Class<?> got = thrownBy(call);
        if (got != null) {
            fail(what + ": threw " + got + ", due is an answer");
        }
        checked++;
    }

    static void refused(String what, Class<?> want, PluralMint m, NumberCall call, int... numbers) {
        for (int number : numbers) {
            throwsDue(what + " with " + number, want, () -> call.on(m, number));
        }
    }

    static void allowed(String what, PluralMint m, NumberCall call, int... numbers) {
        for (int number : numbers) {
            noThrowDue(what + " with " + number, () -> call.on(m, number));
        }
    }

    /** The first and the last noun are there, and no other; each of them has a coin. */
    static void nounsAreBounded(NumberCall call) {
        refused("an empty book", INDEX, new PluralMint(), call, 0, -1, 1, LEAST, GREATEST);
        PluralMint one = mint("a");
        one.strike(0, 1);
        refused("a book of one", INDEX, one, call, 1, -1);
        allowed("a book of one", one, call, 0);
        PluralMint full = fullBook();
        full.strike(0, 1);
        full.strike(19, 1);
        refused("a full book", INDEX, full, call, 20, -1, LEAST, GREATEST);
        allowed("a full book", full, call, 0, 19);
        PluralMint less = mint("a", "b");
        less.undo();
        refused("a noun that is undone", INDEX, less, call, 1);
    }

    private static void fail(String told) {
        wrong++;
        if (wrong <= MOST_TOLD) {
            System.out.println(sentence + told);
        }
    }

    private static Class<?> thrownBy(Call call) {
        try {
            call.run();
            return null;
        } catch (RuntimeException e) {
            return e.getClass();
        }
    }

    // ---- mints made ready

    static void put(PluralMint m, String text) {
        for (char sign : text.toCharArray()) {
            m.type(sign);
        }
    }

    static void write(PluralMint m, String text) {
        m.clearText();
        put(m, text);
    }

    static void carry(PluralMint m, String... texts) {
        for (String text : texts) {
            write(m, text);
            m.carryOut();
        }
    }

    static PluralMint mint(String... texts) {
        PluralMint m = new PluralMint();
        carry(m, texts);
        return m;
    }

    static PluralMint textMint(String text) {
        PluralMint m = new PluralMint();
        put(m, text);
        return m;
    }

    /** A book with the nouns "a" to "t". */
    static PluralMint fullBook() {
        return mint("a;b;c;d;e;f;g;h;i;j;k;l;m;n;o;p;q;r;s;t");
    }

    /** A table with the words "a" to "j", all of them with the plural "x". */
    static PluralMint fullTable() {
        return mint("a=x;b=x;c=x;d=x;e=x;f=x;g=x;h=x;i=x;j=x");
    }

    /** The dies 1 to 11 have the endings "a" to "k". */
    static PluralMint fullDies() {
        return mint("*a>z;*b>z;*c>z;*d>z;*e>z;*f>z;*g>z;*h>z;*i>z;*j>z;*k>z");
    }

    /** Thirty heaps: a coin of each noun "a" to "t" with "s", and two coins of each noun "a" to "j" with "x". */
    static PluralMint fullHeaps() {
        PluralMint m = fullBook();
        for (int noun = 0; noun < 20; noun++) {
            m.strike(noun, 1);
        }
        carry(m, "*>x");
        for (int noun = 0; noun < 10; noun++) {
            m.strike(noun, 2);
        }
        return m;
    }

    // ---- what a mint shows

    static String noun(PluralMint m, int noun) {
        StringBuilder letters = new StringBuilder();
        int length = m.lettersOf(noun);
        for (int place = 0; place < length; place++) {
            letters.append(m.countedLetter(noun, 1, place));
        }
        return letters.toString();
    }

    static String plural(PluralMint m, int noun) {
        StringBuilder letters = new StringBuilder();
        int length = m.pluralLetters(noun);
        for (int place = 0; place < length; place++) {
            letters.append(m.pluralLetter(noun, place));
        }
        return letters.toString();
    }

    static String picture(PluralMint m) {
        StringBuilder all = new StringBuilder();
        all.append("dies ").append(m.dies());
        all.append(", irregulars ").append(m.irregulars()).append(", heaps ").append(m.heaps());
        all.append(", coins ").append(m.coinsByHeaps()).append(' ').append(m.coinsByAccounts());
        all.append(", stale ").append(m.staleCoins());
        for (int noun = 0; noun < m.nouns(); noun++) {
            all.append(", noun ").append(noun(m, noun)).append(' ').append(plural(m, noun));
            all.append(' ').append(m.coinsOf(noun));
            all.append(' ').append(m.dieFor(noun)).append(' ').append(m.isIrregular(noun));
        }
        for (int die = 0; die < m.dies(); die++) {
            all.append(", fits ").append(m.fitsOf(die));
        }
        return all.toString();
    }

    /** All that a mint shows, its text, what it has recorded and its snapshot too; the mint is used up by it. */
    static String unfolded(PluralMint m) {
        StringBuilder all = new StringBuilder();
        all.append("error ").append(m.textError()).append(", ").append(picture(m)).append('\n');
        // One letter more makes a text valid that ended too early, so that its orders show.
        all.append("type ").append(thrownBy(() -> m.type('q'))).append('\n');
        all.append("carryOut ").append(thrownBy(m::carryOut)).append(", ").append(picture(m)).append('\n');
        all.append("clear ").append(m.clearText()).append('\n');
        while (m.recordedStates() > 0) {
            m.undo();
            all.append("undo ").append(picture(m)).append('\n');
        }
        all.append("restore ").append(thrownBy(m::restoreSnapshot)).append(", ").append(picture(m)).append('\n');
        return all.append(agesOfHeaps(m)).toString();
    }

    /** Melts coin by coin, so that it shows which heaps go first. */
    static String agesOfHeaps(PluralMint m) {
        StringBuilder all = new StringBuilder();
        for (int noun = 0; noun < m.nouns(); noun++) {
            int coins = m.coinsOf(noun);
            for (int coin = 0; coin < coins; coin++) {
                m.melt(noun, 1);
                all.append(m.heaps()).append('/').append(m.staleCoins()).append(' ');
            }
        }
        return all.toString();
    }

    static void errorDue(String text, int want) {
        due("textError of '" + text + "'", textMint(text).textError(), want);
    }

    static void impossibleDue(PluralMint m, String text, int want) {
        write(m, text);
        due("impossibleOrder of '" + text + "'", m.impossibleOrder(), want);
    }

    static void recallDue(PluralMint m, String text, int want) {
        write(m, text);
        due("recallByStriking of '" + text + "'", m.recallByStriking(), want);
        due("recallByReversing of '" + text + "'", m.recallByReversing(), want);
    }

    static void possibleDue(PluralMint m, String text, int want) {
        write(m, text);
        due("possibleNouns of '" + text + "'", m.possibleNouns(), want);
    }
}
