/** Tests of each sentence of promises 15 to 34 (calls that only answer) at the boundaries that it names. */
public final class AnswerBoundaryTests extends MintChecks {
    private static final String NO_SUCH_NOUN = "Throws `IndexOutOfBoundsException` if there is no such noun";
    private static final String NO_SINGLE_WORD = "Throws `IllegalStateException` if the text is not a single word";
    private static final String TWELVE = "abcdefghijkl";
    private static final String[] NO_WORDS = {"", "A", "1", "a;b", "a;", ";a", "a=b", "a=", "*>a", "*a", "aB", "a" + (char) 353,
        TWELVE + "m", "a".repeat(60)};

    public static void main(String[] args) {
        nouns();
        lettersOf();
        pluralLetters();
        pluralLetter();
        countedLetter();
        countedLetterThrows();
        isIrregular();
        dieFor();
        ambiguousNouns();
        recallByStriking();
        recallByReversing();
        recallOfWhatDiesMade();
        possibleNouns();
        possibleNounsAtTheLimits();
        dies();
        irregulars();
        fitsOf();
        coinsOf();
        heaps();
        staleCoins();
        coinsByHeaps();
        coinsByAccounts();
        recordedStates();
        for (int promise = 15; promise <= 34; promise++) {
            saidAllBelow("Promise " + promise + ":");
        }
        finish();
    }

    // ---- promises 15 to 17

    private static void nouns() {
        says("Promise 15: nouns", "Returns the number of nouns.");
        due("none", new PluralMint().nouns(), 0);
        due("one", mint("a").nouns(), 1);
        due("irregular words are none", mint("a=b;*>c").nouns(), 0);
        PluralMint m = mint("a;b;c;d;e;f;g;h;i;j;k;l;m;n;o;p;q;r;s", "t");
        due("twenty", m.nouns(), 20);
        write(m, "u");
        throwsDue("the 21st", STATE, m::carryOut);
        due("twenty still", m.nouns(), 20);
        m.undo();
        due("nineteen", m.nouns(), 19);
        m.undo();
        due("none again", m.nouns(), 0);
    }

    private static void lettersOf() {
        String heading = "Promise 16: lettersOf";
        says(heading, "Returns the number of letters of a noun.");
        PluralMint m = mint("a;" + TWELVE + ";bc", "a=xyz;*>pqrs");
        due("the fewest", m.lettersOf(0), 1);
        due("the most", m.lettersOf(1), 12);
        due("two", m.lettersOf(2), 2);
        says(heading, "`noun`: a noun");
        PluralMint full = fullBook();
        due("the first", full.lettersOf(0), 1);
        due("the last", full.lettersOf(19), 1);
        says(heading, "Returns the number of letters.");
        for (int letters = 1; letters <= 12; letters++) {
            due("letters", mint(TWELVE.substring(0, letters)).lettersOf(0), letters);
        }
        says(heading, NO_SUCH_NOUN);
        nounsAreBounded((n, noun) -> n.lettersOf(noun));
    }

    private static void pluralLetters() {
        String heading = "Promise 17: pluralLetters";
        says(heading, "Returns the number of letters of the plural of a noun.");
        due("by die 0", mint("a").pluralLetters(0), 2);
        due("the fewest, by a die", mint(TWELVE.substring(8), "*ijkl>x").pluralLetters(0), 1);
        due("the fewest, by the table", mint(TWELVE, TWELVE + "=x").pluralLetters(0), 1);
        due("the most, by a die", mint(TWELVE, "*>wxyz").pluralLetters(0), 16);
        due("the most, by the table", mint("a", "a=" + TWELVE).pluralLetters(0), 12);
        says(heading, "`noun`: a noun");
        PluralMint full = fullBook();
        due("the first", full.pluralLetters(0), 2);
        due("the last", full.pluralLetters(19), 2);
        says(heading, "Returns the number of letters.");
        for (int letters = 1; letters <= 12; letters++) {
            due("letters", mint(TWELVE.substring(0, letters), "*>xyz").pluralLetters(0), letters + 3);
        }
        says(heading, NO_SUCH_NOUN);
        nounsAreBounded((n, noun) -> n.pluralLetters(noun));
    }

    // ---- promises 18 and 19

    private static void pluralLetter() {
        String heading = "Promise 18: pluralLetter";
        says(heading, "Returns a letter of the plural of a noun.");
        PluralMint m = mint("ab;" + TWELVE + ";c", "*l>lwxy;c=z");
        due("a letter of the noun", m.pluralLetter(0, 1), 'b');
        due("what die 0 adds", m.pluralLetter(0, 2), 's');
        due("by the table", m.pluralLetter(2, 0), 'z');
        says(heading, "`noun`: a noun");
        PluralMint full = fullBook();
        due("the first", full.pluralLetter(0, 0), 'a');
        due("the last", full.pluralLetter(19, 0), 't');
        says(heading, "`place`: 0 for the first letter");
        PluralMint sixteen = mint(TWELVE, "*>wxyz");
        due("the first", sixteen.pluralLetter(0, 0), 'a');
        due("the last", sixteen.pluralLetter(0, 15), 'z');
        says(heading, "Returns the letter.");
        same("each of them", plural(sixteen, 0), TWELVE + "wxyz");
        says(heading, "Throws `IndexOutOfBoundsException` if there is no such noun or letter");
        nounsAreBounded((n, noun) -> n.pluralLetter(noun, 0));
        refused("of sixteen", INDEX, sixteen, (n, place) -> n.pluralLetter(0, place), -1, 16, 17, LEAST, GREATEST);
        refused("of three", INDEX, m, (n, place) -> n.pluralLetter(0, place), -1, 3, 15);
        refused("of one", INDEX, m, (n, place) -> n.pluralLetter(2, place), -1, 1);
        allowed("of one", m, (n, place) -> n.pluralLetter(2, place), 0);
        refused("without a noun", INDEX, m, (n, place) -> n.pluralLetter(3, place), 0, -1, LEAST, GREATEST);
    }

    private static void countedLetter() {
        String heading = "Promise 19: countedLetter";
        says(heading, "Returns a letter of the word that goes with a count: the noun for 1, the plural for any other count.");
        PluralMint m = mint("a", "a=bc");
        due("1", m.countedLetter(0, 1, 0), 'a');
        for (int count : new int[] {0, 2, 3, 11, 100, 9998, 9999}) {
            due("count " + count, m.countedLetter(0, count, 0), 'b');
        }
        says(heading, "`noun`: a noun");
        PluralMint full = fullBook();
        due("the first", full.countedLetter(0, 1, 0), 'a');
        due("the last", full.countedLetter(19, 1, 0), 't');
        says(heading, "`count`: 0 to 9999");
        allowed("count", m, (n, count) -> n.countedLetter(0, count, 0), 0, 1, 2, 9998, 9999);
        refused("count", ARGUMENT, m, (n, count) -> n.countedLetter(0, count, 0), -1, 10000, 10001, LEAST, GREATEST);
        says(heading, "`place`: 0 for the first letter");
        PluralMint most = mint(TWELVE, "*>wxyz");
        due("the noun's first", most.countedLetter(0, 1, 0), 'a');
        due("the noun's last", most.countedLetter(0, 1, 11), 'l');
        due("the plural's first", most.countedLetter(0, 0, 0), 'a');
        due("the plural's last", most.countedLetter(0, 9999, 15), 'z');
        says(heading, "Returns the letter.");
        same("each of the noun's", noun(most, 0), TWELVE);
        due("one of the plural's", most.countedLetter(0, 2, 12), 'w');
    }

    private static void countedLetterThrows() {
        String heading = "Promise 19: countedLetter";
        says(heading, "Throws `IndexOutOfBoundsException` if there is no such noun, or the word has no such letter");
        nounsAreBounded((n, noun) -> n.countedLetter(noun, 0, 0));
        nounsAreBounded((n, noun) -> n.countedLetter(noun, 1, 0));
        refused("an empty book, any count", INDEX, new PluralMint(), (n, count) -> n.countedLetter(0, count, 0),
            0, 1, -1, 10000, LEAST, GREATEST);
        PluralMint most = mint(TWELVE + ";a", "*>wxyz;a=b");
        refused("the noun's", INDEX, most, (n, place) -> n.countedLetter(0, 1, place), -1, 12, 15, LEAST, GREATEST);
        refused("the plural's", INDEX, most, (n, place) -> n.countedLetter(0, 2, place), -1, 16, LEAST, GREATEST);
        refused("the plural's for 0", INDEX, most, (n, place) -> n.countedLetter(0, 0, place), -1, 16);
        refused("one of one", INDEX, most, (n, place) -> n.countedLetter(1, 1, place), -1, 1);
        refused("the plural's of one", INDEX, most, (n, place) -> n.countedLetter(1, 9999, place), -1, 1);
        says(heading, "(looked at only if count is in its range)");
        refused("below its range", ARGUMENT, most, (n, place) -> n.countedLetter(0, -1, place), -1, 0, 16, GREATEST);
        refused("above its range", ARGUMENT, most, (n, place) -> n.countedLetter(0, 10000, place), -1, 0, 16, LEAST);
        refused("at its least", INDEX, most, (n, place) -> n.countedLetter(0, 0, place), 16);
        refused("at its greatest", INDEX, most, (n, place) -> n.countedLetter(0, 9999, place), 16);
        says(heading, "Throws `IllegalArgumentException` if count is out of range");
        refused("count", ARGUMENT, most, (n, count) -> n.countedLetter(1, count, 0), -1, 10000, LEAST, GREATEST);
        refused("count without a noun", INDEX, most, (n, count) -> n.countedLetter(2, count, 0), -1, 10000);
    }

    // ---- promises 20 and 21

    private static void isIrregular() {
        String heading = "Promise 20: isIrregular";
        says(heading, "Tells whether a noun is irregular.");
        PluralMint m = mint("ab;a;abc;as", "ab=abs;b=as");
        holds("with the plural of a die", m.isIrregular(0));
        holds("not a shorter word", !m.isIrregular(1));
        holds("not a longer word", !m.isIrregular(2));
        holds("not a plural of the table", !m.isIrregular(3));
        says(heading, "`noun`: a noun");
        PluralMint full = fullBook();
        carry(full, "a=x;t=y");
        holds("the first", full.isIrregular(0));
        holds("the last", full.isIrregular(19));
        holds("one between", !full.isIrregular(10));
        says(heading, "Returns whether the table has it.");
        PluralMint table = fullTable();
        carry(table, "a;j;k");
        holds("the first of ten", table.isIrregular(0));
        holds("the last of ten", table.isIrregular(1));
        holds("no other", !table.isIrregular(2));
        table.dropIrregular();
        holds("the last is dropped", !table.isIrregular(1));
        holds("none in an empty table", !mint("a").isIrregular(0));
        says(heading, NO_SUCH_NOUN);
        nounsAreBounded((n, noun) -> n.isIrregular(noun));
    }

    private static void dieFor() {
        String heading = "Promise 21: dieFor";
        says(heading, "Returns the die that makes the plural of a noun.");
        PluralMint m = fullDies();
        carry(m, "l;a;k");
        due("the first die", m.dieFor(0), 0);
        due("the second", m.dieFor(1), 1);
        due("the last", m.dieFor(2), 11);
        says(heading, "`noun`: a noun");
        PluralMint full = fullBook();
        carry(full, "*a>x;*t>y");
        due("the first", full.dieFor(0), 1);
        due("the last", full.dieFor(19), 2);
        says(heading, "Returns the die;");
        due("with the longest ending", mint("abc", "*bc>x;*c>y").dieFor(0), 1);
        due("with the greatest number", mint("abc", "*c>x;*c>x").dieFor(0), 2);
        due("though another one would make the same", mint("a", "*>s").dieFor(0), 1);
        says(heading, "NONE if the noun is irregular.");
        PluralMint irregular = mint("a;b", "a=as;b=x");
        due("with the plural of die 0", irregular.dieFor(0), NONE);
        due("with another one", irregular.dieFor(1), NONE);
        irregular.dropIrregular();
        due("no more", irregular.dieFor(1), 0);
        says(heading, NO_SUCH_NOUN);
        nounsAreBounded((n, noun) -> n.dieFor(noun));
    }

    // ---- promise 22

    private static void ambiguousNouns() {
        says("Promise 22: ambiguousNouns", "Counts the nouns whose plural is the plural of another noun, too.");
        due("of none", new PluralMint().ambiguousNouns(), 0);
        due("of one", mint("a").ambiguousNouns(), 0);
        due("of two with plurals of their own", mint("a;b").ambiguousNouns(), 0);
        due("of two with one plural", mint("a;b", "a=bs").ambiguousNouns(), 2);
        due("of three with one plural", mint("a;b;c", "a=x;b=x;c=x").ambiguousNouns(), 3);
        due("of two pairs", mint("a;b;c;d;e", "a=es;b=x;c=x").ambiguousNouns(), 4);
        due("the plural of a word that is no noun", mint("a", "b=as").ambiguousNouns(), 0);
        due("a plural that is another noun", mint("a;as").ambiguousNouns(), 0);
        due("the plural of itself", mint("a;b", "a=a").ambiguousNouns(), 0);
        due("plurals that begin alike", mint("a;b", "a=x;b=xx").ambiguousNouns(), 0);
        due("what die 0 would make of no letters", mint("a", "a=s").ambiguousNouns(), 0);
        PluralMint all = fullBook();
        due("of twenty, none", all.ambiguousNouns(), 0);
        carry(all, "a=t;b=t;c=t;d=t;e=t;f=t;g=t;h=t;i=t;j=t");
        due("of twenty, ten", all.ambiguousNouns(), 10);
        carry(all, "*k>t;*l>t;*m>t;*n>t;*o>t;*p>t;*q>t;*r>t;*s>t;*t>t");
        due("all twenty", all.ambiguousNouns(), 20);
        PluralMint longest = mint(TWELVE + ";abcdefghijkm", "*l>lwxy;*m>lwxz");
        due("fourteen of fifteen letters alike", longest.ambiguousNouns(), 0);
        carry(longest, "*m>lwxy");
        due("fifteen letters alike", longest.ambiguousNouns(), 2);
    }

    // ---- promises 23 and 24

    private static void recallByStriking() {
        String heading = "Promise 23: recallByStriking";
        says(heading, "Finds the first noun of the book whose plural is the text, told by striking: noun by noun.");
        PluralMint m = mint("b;a;c", "b=x;a=as;c=as");
        due("the first of two", recall(m, "as"), 1);
        carry(m, "b=as");
        due("the first of three", recall(m, "as"), 0);
        carry(m, "b=x;a=x");
        due("the only one", recall(m, "as"), 2);
        says(heading, "Returns the noun;");
        PluralMint full = fullBook();
        due("the first", recall(full, "as"), 0);
        due("the last", recall(full, "ts"), 19);
        due("a text of one letter", recall(mint("b", "b=a"), "a"), 0);
        due("what die 0 would make of no letters", recall(mint("b", "b=s"), "s"), 0);
        due("a text of twelve letters", recall(mint("abcdefghijk"), "abcdefghijks"), 0);
        says(heading, "NONE if there is none.");
        due("in an empty book", recall(new PluralMint(), "as"), NONE);
        due("in a full book", recall(full, "us"), NONE);
        due("a plural less a letter", recall(mint("ab"), "ab"), NONE);
        due("a plural and a letter", recall(mint("ab"), "abss"), NONE);
        due("twelve of thirteen letters", recall(mint(TWELVE), TWELVE), NONE);
        due("a word of the table that is no noun", recall(mint("b=a"), "a"), NONE);
        says(heading, NO_SINGLE_WORD);
        for (String text : NO_WORDS) {
            PluralMint no = mint("a");
            write(no, text);
            throwsDue("'" + text + "'", STATE, no::recallByStriking);
        }
    }

    private static int recall(PluralMint m, String text) {
        write(m, text);
        return m.recallByStriking();
    }

    private static int reversed(PluralMint m, String text) {
        write(m, text);
        return m.recallByReversing();
    }

    private static void recallByReversing() {
        String heading = "Promise 24: recallByReversing";
        says(heading, "the irregular words with this plural,");
        PluralMint full = fullTable();
        carry(full, "j");
        due("the last of ten", reversed(full, "x"), 0);
        carry(full, "a");
        due("still the first noun", reversed(full, "x"), 0);
        due("of twelve letters", reversed(mint("a", "a=" + TWELVE), TWELVE), 0);
        says(heading, "the one of these words that is the first noun in the book.");
        due("a die's word ahead of the table's", reversed(mint("by;a", "a=bs;*y>s"), "bs"), 0);
        due("the table's ahead of a die's", reversed(mint("a;by", "a=bs;*y>s"), "bs"), 0);
        due("a later die's word", reversed(mint("bz;by;b", "*y>s;*z>s"), "bs"), 0);
        due("an earlier die's word", reversed(mint("b;by;bz", "*y>s;*z>s"), "bs"), 0);
        due("one that is no noun ahead", reversed(mint("c;by", "a=bs;*y>s"), "bs"), 1);
        says(heading, "Returns the noun;");
        PluralMint book = fullBook();
        due("the first", reversed(book, "as"), 0);
        due("the last", reversed(book, "ts"), 19);
        due("what die 0 would make of no letters", reversed(mint("b", "b=s"), "s"), 0);
        says(heading, "NONE if there is none.");
        due("in an empty book", reversed(new PluralMint(), "as"), NONE);
        due("in a full book", reversed(book, "us"), NONE);
        due("nothing ahead of what the die adds", reversed(book, "s"), NONE);
        due("without what a die adds", reversed(book, "a"), NONE);
        due("a word of the table that is no noun", reversed(mint("b=a"), "a"), NONE);
        says(heading, NO_SINGLE_WORD);
        for (String text : NO_WORDS) {
            PluralMint no = mint("a");
            write(no, text);
            throwsDue("'" + text + "'", STATE, no::recallByReversing);
        }
    }

    private static void recallOfWhatDiesMade() {
        String heading = "Promise 24: recallByReversing";
        says(heading, "Finds the same, told by reversing:");
        for (String text : new String[] {"a", "s", "as", "bs", "x", "axs", "ays", "ies", "bies", "abcdefghijks"}) {
            PluralMint m = mint("ay;by;a;b;abcdefghijk", "*!y>ies;*?y>ys;*b>x;a=bs;ax=as");
            due("both of '" + text + "'", reversed(m, text), recall(m, text));
        }
        says(heading, "and what each die can have made it of,");
        due("the whole word", reversed(mint("abcd", "*abcd>x"), "x"), 0);
        due("an empty ending", reversed(mint("a", "*>bcde"), "abcde"), 0);
        due("with a consonant ahead", reversed(mint("by", "*!y>x"), "bx"), 0);
        due("with a vowel ahead", reversed(mint("ay", "*?y>x"), "ax"), 0);
        due("not without a letter ahead", reversed(mint("y", "*!y>x"), "x"), NONE);
        due("twelve letters of nine", reversed(mint("abcdefghijkl", "*ijkl>x"), "abcdefghx"), 0);
        due("twelve letters of eight and four", reversed(mint("abcdefgh", "*>wxyz"), "abcdefghwxyz"), 0);
        due("the last die", reversed(withNoun(fullDies(), "k"), "z"), 0);
        says(heading, "as far as the plural of that is the text;");
        due("the table tells another plural", reversed(mint("a", "a=b"), "as"), NONE);
        due("a longer ending makes another plural", reversed(mint("ay", "*y>x"), "ays"), NONE);
        due("a later die makes another plural", reversed(mint("a", "*>x"), "as"), NONE);
        due("another one makes the same", reversed(mint("ay", "*y>ys"), "ays"), 0);
    }

    private static PluralMint withNoun(PluralMint m, String noun) {
        carry(m, noun);
        return m;
    }

    // ---- promise 25

    private static void possibleNouns() {
        String heading = "Promise 25: possibleNouns";
        says(heading, "Counts the words, in the book or not, whose plural is the text, told by reversing.");
        possibleDue(mint("a"), "as", 1);
        possibleDue(new PluralMint(), "as", 1);
        possibleDue(mint("b=as"), "as", 2);
        possibleDue(mint("a=as"), "as", 1);
        possibleDue(mint("a=x"), "as", 0);
        possibleDue(mint("*>s"), "as", 1);
        possibleDue(mint("*>s;*>s;a=as"), "as", 1);
        possibleDue(mint("*y>s"), "as", 2);
        possibleDue(mint("*!y>s"), "as", 1);
        possibleDue(mint("*?y>s"), "as", 2);
        possibleDue(mint("*>x"), "as", 0);
        says(heading, "Returns the number of words.");
        possibleDue(new PluralMint(), "a", 0);
        possibleDue(new PluralMint(), "s", 0);
        possibleDue(new PluralMint(), "ss", 1);
        PluralMint most = mint("b=as;c=as;d=as;e=as;f=as;g=as;h=as;i=as;j=as;k=as");
        possibleDue(most, "as", 11);
        carry(most, "*l>s;*m>s;*n>s;*o>s;*p>s;*q>s;*r>s;*t>s;*u>s;*v>s;*w>s");
        possibleDue(most, "as", 22);
        possibleDue(most, "xs", 12);
        says(heading, NO_SINGLE_WORD);
        for (String text : NO_WORDS) {
            throwsDue("'" + text + "'", STATE, () -> textMint(text).possibleNouns());
        }
    }

    private static void possibleNounsAtTheLimits() {
        says("Promise 25: possibleNouns", "Counts the words");
        possibleDue(mint("*a>x"), "x", 1);
        possibleDue(mint("*>x"), "x", 0);
        possibleDue(mint("*!a>x"), "x", 0);
        possibleDue(mint("*abcd>x"), "x", 1);
        possibleDue(new PluralMint(), "abcdefghijks", 1);
        possibleDue(mint("*x>s"), "abcdefghijks", 2);
        possibleDue(mint("*xy>s"), "abcdefghijks", 1);
        possibleDue(mint("*wxyz>s"), "abcdefghs", 2);
        possibleDue(mint("*wxyz>s"), "abcdefghis", 1);
        possibleDue(mint("*wxyz>s"), "abcdefghijks", 1);
        possibleDue(mint("*>wxyz"), "abcdefghwxyz", 1);
        possibleDue(mint("*>wxyz"), "wxyz", 0);
        possibleDue(mint("*>wxyz"), "xyz", 0);
        possibleDue(mint(TWELVE + "=" + TWELVE), TWELVE, 1);
        possibleDue(mint("a=" + TWELVE), TWELVE, 1);
        noThrowDue("one letter", () -> textMint("z").possibleNouns());
        noThrowDue("twelve letters", () -> textMint(TWELVE).possibleNouns());
    }

    // ---- promises 26 to 28

    private static void dies() {
        says("Promise 26: dies", "Returns the number of dies.");
        due("one", new PluralMint().dies(), 1);
        due("two", mint("*>s").dies(), 2);
        PluralMint m = fullDies();
        due("twelve", m.dies(), 12);
        write(m, "*>s");
        throwsDue("the 13th", STATE, m::carryOut);
        due("twelve still", m.dies(), 12);
        m.dropDie(11);
        due("eleven", m.dies(), 11);
        m.undo();
        m.undo();
        due("one again", m.dies(), 1);
    }

    private static void irregulars() {
        says("Promise 27: irregulars", "Returns the number of irregular words.");
        due("none", new PluralMint().irregulars(), 0);
        due("one", mint("a=a").irregulars(), 1);
        due("one with two plurals", mint("a=b;a=c").irregulars(), 1);
        due("two with one plural", mint("a=c;b=c").irregulars(), 2);
        PluralMint m = fullTable();
        due("ten", m.irregulars(), 10);
        write(m, "k=x");
        throwsDue("the 11th", STATE, m::carryOut);
        due("ten still", m.irregulars(), 10);
        m.dropIrregular();
        due("nine", m.irregulars(), 9);
        m.undo();
        m.undo();
        due("none again", m.irregulars(), 0);
    }

    private static void fitsOf() {
        String heading = "Promise 28: fitsOf";
        says(heading, "Counts the nouns of the book that a die fits.");
        PluralMint m = mint("a;ba;cba;ab", "*a>x;*ba>y;*!a>z;*?>w;ba=q;da=q");
        due("also those that others make, or the table", m.fitsOf(1), 3);
        due("a longer ending", m.fitsOf(2), 2);
        due("a consonant ahead", m.fitsOf(3), 2);
        due("a vowel at the end", m.fitsOf(4), 3);
        says(heading, "`die`: a die");
        PluralMint full = fullDies();
        carry(full, "k;ak;b");
        due("the first", full.fitsOf(0), 3);
        due("the last", full.fitsOf(11), 2);
        refused("twelve dies", INDEX, full, (n, die) -> n.fitsOf(die), 12, -1, LEAST, GREATEST);
        says(heading, "Returns the number of nouns.");
        due("of an empty book", new PluralMint().fitsOf(0), 0);
        PluralMint book = fullBook();
        carry(book, "*>x;*aa>x");
        due("of a full book, all", book.fitsOf(1), 20);
        due("of a full book, none", book.fitsOf(2), 0);
        says(heading, "Throws `IndexOutOfBoundsException` if there is no such die");
        refused("die 0 alone", INDEX, new PluralMint(), (n, die) -> n.fitsOf(die), 1, -1, LEAST, GREATEST);
        allowed("die 0 alone", new PluralMint(), (n, die) -> n.fitsOf(die), 0);
        full.dropDie(3);
        refused("eleven dies", INDEX, full, (n, die) -> n.fitsOf(die), 11);
        allowed("eleven dies", full, (n, die) -> n.fitsOf(die), 0, 10);
    }

    // ---- promises 29 to 31

    private static void coinsOf() {
        String heading = "Promise 29: coinsOf";
        says(heading, "Returns the number of coins of a noun.");
        PluralMint m = mint("a;b");
        m.strike(0, 1);
        m.strike(1, 99);
        carry(m, "*>x");
        m.strike(0, 99);
        due("of two heaps, one of them stale", m.coinsOf(0), 100);
        due("of one heap", m.coinsOf(1), 99);
        says(heading, "`noun`: a noun");
        PluralMint full = fullHeaps();
        due("the first", full.coinsOf(0), 3);
        due("the last", full.coinsOf(19), 1);
        says(heading, "Returns the number of coins.");
        due("none", mint("a").coinsOf(0), 0);
        m.melt(0, 99);
        due("one", m.coinsOf(0), 1);
        m.melt(0, 1);
        due("none again", m.coinsOf(0), 0);
        m.meltStale();
        due("none when the stale ones are melted", m.coinsOf(1), 0);
        says(heading, NO_SUCH_NOUN);
        nounsAreBounded((n, noun) -> n.coinsOf(noun));
    }

    private static void heaps() {
        says("Promise 30: heaps", "Returns the number of heaps.");
        due("none", new PluralMint().heaps(), 0);
        PluralMint m = mint("a");
        due("none of a noun without coins", m.heaps(), 0);
        m.strike(0, 1);
        due("one", m.heaps(), 1);
        m.melt(0, 1);
        due("none again", m.heaps(), 0);
        PluralMint full = fullHeaps();
        due("thirty", full.heaps(), 30);
        throwsDue("the 31st", STATE, () -> full.strike(19, 1));
        due("thirty still", full.heaps(), 30);
        full.melt(0, 1);
        due("twenty-nine", full.heaps(), 29);
        full.meltStale();
        due("ten", full.heaps(), 10);
    }

    private static void staleCoins() {
        says("Promise 31: staleCoins", "Returns the number of stale coins.");
        due("none of none", new PluralMint().staleCoins(), 0);
        PluralMint m = mint("a");
        m.strike(0, 99);
        due("none", m.staleCoins(), 0);
        carry(m, "*>x");
        due("all", m.staleCoins(), 99);
        m.strike(0, 1);
        due("all but one", m.staleCoins(), 99);
        m.dropDie(1);
        due("that one", m.staleCoins(), 1);
        m.meltStale();
        due("none is left", m.staleCoins(), 0);
        PluralMint full = fullHeaps();
        due("of twenty heaps", full.staleCoins(), 20);
        carry(full, "*>y");
        due("of thirty heaps", full.staleCoins(), 40);
    }

    // ---- promises 32 to 34

    private static void coinsByHeaps() {
        says("Promise 32: coinsByHeaps", "Returns the number of all coins, told by heaps.");
        due("none", new PluralMint().coinsByHeaps(), 0);
        due("of thirty heaps", fullHeaps().coinsByHeaps(), 40);
        PluralMint m = mint("a;b");
        m.strike(0, 1);
        due("one", m.coinsByHeaps(), 1);
        m.strike(1, 99);
        carry(m, "*>x");
        due("stale ones too", m.coinsByHeaps(), 100);
        m.melt(1, 99);
        due("one is left", m.coinsByHeaps(), 1);
        m.meltStale();
        due("none is left", m.coinsByHeaps(), 0);
        m.undo();
        due("undone", m.coinsByHeaps(), 1);
    }

    private static void coinsByAccounts() {
        says("Promise 33: coinsByAccounts",
            "Returns the same, told by accounts: those that were struck less those that were melted.");
        due("none", new PluralMint().coinsByAccounts(), 0);
        due("of thirty heaps", fullHeaps().coinsByAccounts(), 40);
        PluralMint m = mint("a;b");
        m.strike(0, 99);
        m.strike(1, 1);
        due("struck", m.coinsByAccounts(), 100);
        m.melt(0, 99);
        due("melted", m.coinsByAccounts(), 1);
        m.undo();
        due("a melting undone", m.coinsByAccounts(), 100);
        m.takeSnapshot();
        carry(m, "*a>x");
        m.meltStale();
        due("stale ones melted", m.coinsByAccounts(), 1);
        m.undo();
        due("that undone", m.coinsByAccounts(), 100);
        m.strike(0, 5);
        m.restoreSnapshot();
        due("as in the snapshot", m.coinsByAccounts(), 100);
        throwsDue("a melting that is refused", STATE, () -> m.melt(1, 2));
        throwsDue("a striking that is refused", ARGUMENT, () -> m.strike(1, 100));
        due("they do not count", m.coinsByAccounts(), 100);
    }

    private static void recordedStates() {
        says("Promise 34: recordedStates", "Returns the number of recorded states.");
        PluralMint m = new PluralMint();
        due("none", m.recordedStates(), 0);
        for (int actions = 1; actions <= 6; actions++) {
            m.meltStale();
            due("after " + actions, m.recordedStates(), Math.min(actions, 4));
        }
        for (int left = 3; left >= 0; left--) {
            m.undo();
            due("left", m.recordedStates(), left);
        }
        throwsDue("undo", STATE, m::undo);
        due("none still", m.recordedStates(), 0);
        throwsDue("an action that is refused", STATE, m::dropIrregular);
        due("it records none", m.recordedStates(), 0);
    }
}
