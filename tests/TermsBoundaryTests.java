/** Tests of each sentence of the document's "Terms": on both sides of every boundary that it names. */
public final class TermsBoundaryTests extends MintChecks {
    private static final String TERMS = "Terms";
    private static final String TWELVE = "abcdefghijkl";

    public static void main(String[] args) {
        lastPromisedCall();
        letters();
        wordLengths();
        vowels();
        twelveDies();
        numbersOfDies();
        dieFromTheBeginning();
        endings();
        additions();
        conditions();
        wordEndsWithEnding();
        longerThanEnding();
        letterAhead();
        whatADieMakes();
        dieZero();
        numbersAfterADrop();
        tenIrregularWords();
        pluralsOfTheTable();
        longestEnding();
        greatestNumber();
        sixteenLetters();
        twentyNouns();
        numbersOfNouns();
        noWordTwice();
        coinsBearTheirPlural();
        staleAsLongAs();
        heapsOfOneNounAndPlural();
        thirtyHeaps();
        oldestHeapsFirst();
        heapsWithoutCoins();
        sixtyCharacters();
        emptyAtFirst();
        ordersAndSeparators();
        nounOrders();
        irregularOrders();
        irregularOrdersAgain();
        dieOrders();
        signsOfConditions();
        firstErrors();
        firstErrorsAnywhere();
        textsThatEndTooEarly();
        actionsRecord();
        actionsRecordOnlyIfSuccessful();
        otherCallsRecordNothing();
        fourRecordedStates();
        allOfTheState();
        notOfTheState();
        firstListedException();
        throwingCallsChangeNothing();
        textOfThrowingCalls();
        noSuchNoun();
        noSuchDieOrLetter();
        none();
        saidAllBelow(TERMS);
        finish();
    }

    private static void lastPromisedCall() {
        says("What it is", "An object is used for at most 512 calls after it has been made");
        PluralMint m = new PluralMint();
        m.type('a');
        m.carryOut();
        for (int strikes = 1; strikes <= 509; strikes++) {
            due("strike " + strikes, m.strike(0, 99), 99 * strikes);
        }
        due("the 512th call", m.coinsByAccounts(), 99 * 509);
    }

    // ---- words

    private static void letters() {
        says(TERMS, "small letters from \"a\" to \"z\"");
        PluralMint m = new PluralMint();
        for (int sign = 0; sign <= Character.MAX_VALUE; sign++) {
            if (sign % 128 == 0) {
                m = new PluralMint();
            }
            m.type((char) sign);
            boolean isLetter = sign >= 'a' && sign <= 'z';
            due("textError of sign " + sign, m.textError(), isLetter ? NONE : sign == '*' ? 1 : 0);
            m.clearText();
        }
        for (char sign : new char[] {'`', '{', 'A', 'Z', (char) ('a' + 256), (char) ('z' + 256)}) {
            errorDue("a" + sign, 1);
            errorDue("a=" + sign, 2);
            errorDue("*" + sign, 1);
            errorDue("*>" + sign, 2);
        }
    }

    private static void wordLengths() {
        says(TERMS, "A word consists of 1 to 12 small letters");
        PluralMint m = mint("a;" + TWELVE, "a=b", TWELVE + "=" + TWELVE);
        due("a noun of 1 letter", m.lettersOf(0), 1);
        due("a noun of 12 letters", m.lettersOf(1), 12);
        due("an irregular plural of 1 letter", m.pluralLetters(0), 1);
        due("an irregular plural of 12 letters", m.pluralLetters(1), 12);
        errorDue("", 0);
        errorDue("a;;b", 2);
        errorDue("=b", 0);
        errorDue("a=;b", 2);
        errorDue(TWELVE + "m", 12);
        errorDue(TWELVE + "m=a", 12);
        errorDue("a=" + TWELVE + "m", 14);
        errorDue(TWELVE + "=" + TWELVE + "m", 25);
        throwsDue("recall of no letters", STATE, () -> textMint("").recallByStriking());
        noThrowDue("recall of 1 letter", () -> textMint("a").recallByStriking());
        noThrowDue("recall of 12 letters", () -> textMint(TWELVE).recallByStriking());
        throwsDue("recall of 13 letters", STATE, () -> textMint(TWELVE + "m").recallByStriking());
    }

    private static void vowels() {
        says(TERMS, "\"a\", \"e\", \"i\", \"o\" and \"u\" are vowels, the others consonants.");
        for (char letter = 'a'; letter <= 'z'; letter++) {
            PluralMint m = mint(letter + "x", "*!x>y;*?x>z");
            boolean isVowel = "aeiou".indexOf(letter) >= 0;
            due(letter + " is a consonant", m.fitsOf(1), isVowel ? 0 : 1);
            due(letter + " is a vowel", m.fitsOf(2), isVowel ? 1 : 0);
        }
    }

    // ---- dies

    private static void twelveDies() {
        says(TERMS, "There are up to 12 dies");
        PluralMint m = fullDies();
        due("dies", m.dies(), 12);
        impossibleDue(m, "*l>z", 0);
        throwsDue("the 13th", STATE, m::carryOut);
        due("dies still", m.dies(), 12);
        m.dropDie(11);
        impossibleDue(m, "*l>z", NONE);
        due("the 12th again", m.carryOut(), 1);
        due("dies again", m.dies(), 12);
    }

    private static void numbersOfDies() {
        says(TERMS, "numbered from 0 in the order in which they came");
        PluralMint m = fullDies();
        carry(m, "a;b;c;d;e;f;g;h;i;j;k;l");
        for (int die = 1; die <= 11; die++) {
            due("the die of noun " + (die - 1), m.dieFor(die - 1), die);
            due("nouns that die " + die + " fits", m.fitsOf(die), 1);
        }
        due("the die of a noun with no other", m.dieFor(11), 0);
    }

    private static void dieFromTheBeginning() {
        says(TERMS, "die 0 is there from the beginning.");
        PluralMint m = new PluralMint();
        due("dies", m.dies(), 1);
        due("die 0", m.fitsOf(0), 0);
        throwsDue("die 1", INDEX, () -> m.fitsOf(1));
        throwsDue("die 0 stays", STATE, () -> m.dropDie(0));
        carry(m, "a");
        due("the die of the first noun", m.dieFor(0), 0);
    }

    private static void endings() {
        says(TERMS, "A die has an ending of 0 to 4 letters");
        PluralMint m = mint("abcde", "*>v");
        same("no letter", plural(m, 0), "abcdev");
        carry(m, "*e>w");
        same("1 letter", plural(m, 0), "abcdw");
        carry(m, "*bcde>x");
        same("4 letters", plural(m, 0), "ax");
        errorDue("*abcde>x", 5);
        errorDue("*!abcde>x", 6);
        errorDue("*?abcde>x", 6);
        carry(m, "*?>v;*!>v", "*?bcde>y");
        same("4 letters with a condition", plural(m, 0), "ay");
        due("no letter, a vowel ahead", m.fitsOf(4), 1);
        due("no letter, a consonant ahead", m.fitsOf(5), 0);
    }

    private static void additions() {
        says(TERMS, "what it adds, 1 to 4 letters");
        same("1 letter", plural(mint("a", "*>b"), 0), "ab");
        same("4 letters", plural(mint("a", "*>bcde"), 0), "abcde");
        errorDue("*a>", 3);
        errorDue("*a>;b", 3);
        errorDue("*a>bcdef", 7);
        errorDue("*>bcdef", 6);
        errorDue("*!abcd>efghi", 11);
    }

    private static void conditions() {
        says(TERMS, "a condition: none, or that a consonant, or a vowel, is right ahead of the ending.");
        PluralMint m = mint("y;ay;by", "*y>u;*!y>v;*?y>w");
        due("none", m.fitsOf(1), 3);
        due("a consonant", m.fitsOf(2), 1);
        due("a vowel", m.fitsOf(3), 1);
        due("neither ahead", m.dieFor(0), 1);
        due("a vowel ahead", m.dieFor(1), 3);
        due("a consonant ahead", m.dieFor(2), 2);
    }

    private static void wordEndsWithEnding() {
        says(TERMS, "A die fits a word if the word ends with its ending");
        PluralMint m = mint("abcd;bcd;abcde;xabcd;abxd;xbcd", "*abcd>z");
        int[] dies = {1, 0, 0, 1, 0, 0};
        for (int noun = 0; noun < dies.length; noun++) {
            due("the die of noun " + noun, m.dieFor(noun), dies[noun]);
        }
        due("nouns that it fits", m.fitsOf(1), 2);
        PluralMint n = mint("a;" + TWELVE, "*>z");
        due("an empty ending ends each word", n.fitsOf(1), 2);
    }

    private static void longerThanEnding() {
        says(TERMS, "with a condition, is longer than the ending");
        PluralMint m = mint("abcd;xabcd;eabcd", "*!abcd>v", "*?abcd>w");
        due("as long as the ending", m.dieFor(0), 0);
        due("longer by a consonant", m.dieFor(1), 1);
        due("longer by a vowel", m.dieFor(2), 2);
        carry(m, "*abcd>u");
        due("as long, without a condition", m.dieFor(0), 3);
        PluralMint n = mint("b;e", "*!b>v;*?b>w;*!e>v;*?e>w");
        due("one letter as long as the ending", n.dieFor(0), 0);
        due("another one", n.dieFor(1), 0);
        PluralMint o = mint("b;e", "*!>v;*?>w");
        due("one letter longer than an empty ending", o.dieFor(0), 1);
        due("one vowel longer than an empty ending", o.dieFor(1), 2);
    }

    private static void letterAhead() {
        says(TERMS, "the letter ahead of the ending is such a letter.");
        PluralMint m = mint("bay;aby;yy", "*!y>v;*?y>w");
        due("a vowel right ahead, a consonant farther", m.dieFor(0), 2);
        due("a consonant right ahead, a vowel farther", m.dieFor(1), 1);
        due("y is a consonant", m.dieFor(2), 1);
        PluralMint n = mint("ba;ab", "*!a>v;*?b>w");
        due("the ending's own letters do not count", n.dieFor(0), 1);
        due("nor do they here", n.dieFor(1), 2);
    }

    private static void whatADieMakes() {
        says(TERMS, "What the die makes of a word is the word without the ending, and with what it adds.");
        same("the word is the ending", plural(mint("abcd", "*abcd>x"), 0), "x");
        same("an empty ending", plural(mint("a", "*>b"), 0), "ab");
        same("only the last of two", plural(mint("abab", "*ab>cd"), 0), "abcd");
        same("what it adds begins like the ending", plural(mint("aa", "*a>aa"), 0), "aaa");
        same("all letters of the longest", plural(mint(TWELVE, "*ijkl>wxyz"), 0), "abcdefghwxyz");
        same("twelve letters less four", plural(mint(TWELVE, "*ijkl>w"), 0), "abcdefghw");
    }

    private static void dieZero() {
        says(TERMS, "Die 0 has an empty ending, no condition, and adds \"s\".");
        PluralMint m = mint("a;b;s;" + TWELVE);
        same("a vowel", plural(m, 0), "as");
        same("a consonant", plural(m, 1), "bs");
        same("s", plural(m, 2), "ss");
        same("twelve letters", plural(m, 3), TWELVE + "s");
        due("it fits all", m.fitsOf(0), 4);
        carry(m, "*>x");
        due("a later empty ending goes first", m.dieFor(0), 1);
    }

    private static void numbersAfterADrop() {
        says(TERMS, "When a die is dropped, those with greater numbers have numbers less by 1.");
        PluralMint m = fullDies();
        carry(m, "a;b;c;d;e;f;g;h;i;j;k");
        m.dropDie(6);
        diesDue(m, "one in the middle", 1, 2, 3, 4, 5, 0, 6, 7, 8, 9, 10);
        m.dropDie(10);
        diesDue(m, "the last", 1, 2, 3, 4, 5, 0, 6, 7, 8, 9, 0);
        m.dropDie(1);
        diesDue(m, "the first but die 0", 0, 1, 2, 3, 4, 0, 5, 6, 7, 8, 0);
        throwsDue("the number that is free", INDEX, () -> m.dropDie(9));
        PluralMint n = mint("ay;by", "*>p;*?y>vw;*!y>x");
        n.dropDie(1);
        due("a condition goes with its die", n.dieFor(0), 1);
        due("another one too", n.dieFor(1), 2);
        same("and what it adds", plural(n, 0), "avw");
        same("and what the other adds", plural(n, 1), "bx");
    }

    private static void diesDue(PluralMint m, String what, int... dies) {
        for (int noun = 0; noun < dies.length; noun++) {
            due(what + ": the die of noun " + noun, m.dieFor(noun), dies[noun]);
        }
    }

    // ---- plurals

    private static void tenIrregularWords() {
        says(TERMS, "There is a table of up to 10 irregular words with their plurals.");
        PluralMint m = fullTable();
        due("irregulars", m.irregulars(), 10);
        impossibleDue(m, "k=x", 0);
        throwsDue("the 11th", STATE, m::carryOut);
        due("irregulars still", m.irregulars(), 10);
        impossibleDue(m, "a=y;j=y", NONE);
        due("words that it has", m.carryOut(), 2);
        due("irregulars as before", m.irregulars(), 10);
        m.dropIrregular();
        carry(m, "k=x");
        due("the 10th again", m.irregulars(), 10);
    }

    private static void pluralsOfTheTable() {
        says(TERMS, "The plural of a word that is in the table is the one that the table tells");
        PluralMint m = mint("ox;o;oxx", "*ox>die", "ox=oxen");
        same("though a die fits", plural(m, 0), "oxen");
        same("not of a shorter word", plural(m, 1), "os");
        same("not of a longer word", plural(m, 2), "oxxs");
        carry(m, "ox=ox");
        same("the word itself", plural(m, 0), "ox");
        carry(m, "ox=" + TWELVE);
        same("twelve letters", plural(m, 0), TWELVE);
        carry(m, "o=z;oxx=y");
        same("the first of the table", plural(m, 0), TWELVE);
        same("the second", plural(m, 1), "z");
        same("the last", plural(m, 2), "y");
        PluralMint n = fullTable();
        carry(n, "j;a");
        same("the 10th of a full table", plural(n, 0), "x");
        same("the first of a full table", plural(n, 1), "x");
    }

    private static void longestEnding() {
        says(TERMS, "it is what the die makes of it that fits and has the longest ending");
        PluralMint m = mint("abcde", "*bcde>q;*cde>r;*de>t;*e>u;*>v");
        for (String plural : new String[] {"aq", "abr", "abct", "abcdu", "abcdev"}) {
            same("the least number, the longest ending", plural(m, 0), plural);
            m.dropDie(1);
        }
        same("die 0 alone", plural(m, 0), "abcdes");
        carry(m, "*e>u;*bcd>v;*!bcde>w");
        same("a longer one that does not fit", plural(m, 0), "abcdu");
    }

    private static void greatestNumber() {
        says(TERMS, "of several the one with the greatest number.");
        PluralMint m = mint("ab", "*b>p;*!b>q;*?b>r;*b>t;*!b>u");
        due("four of one length, the last does not fit", m.dieFor(0), 4);
        m.dropDie(4);
        due("with a condition", m.dieFor(0), 3);
        m.dropDie(3);
        due("only one is left that fits", m.dieFor(0), 1);
        PluralMint n = fullDies();
        carry(n, "l");
        n.dropDie(11);
        carry(n, "*>y");
        due("two empty endings", n.dieFor(0), 11);
        same("the later one", plural(n, 0), "ly");
    }

    private static void sixteenLetters() {
        says(TERMS, "(Plurals have at most 16 letters.)");
        PluralMint m = mint(TWELVE, "*>wxyz");
        due("letters", m.pluralLetters(0), 16);
        same("all of them", plural(m, 0), TWELVE + "wxyz");
        throwsDue("the 17th", INDEX, () -> m.pluralLetter(0, 16));
        m.strike(0, 1);
        due("coins bear all of them", m.staleCoins(), 0);
        carry(m, "*>wxya");
        due("the 16th makes another word", m.staleCoins(), 1);
        carry(m, "*>wxy");
        due("so does its lack", m.staleCoins(), 1);
        carry(m, "*>wxyz");
        due("the same sixteen", m.staleCoins(), 0);
    }

    // ---- the book

    private static void twentyNouns() {
        says(TERMS, "Up to 20 nouns are in the book");
        PluralMint m = fullBook();
        due("nouns", m.nouns(), 20);
        impossibleDue(m, "u", 0);
        throwsDue("the 21st", STATE, m::carryOut);
        due("nouns still", m.nouns(), 20);
        PluralMint n = mint("a;b;c;d;e;f;g;h;i;j;k;l;m;n;o;p;q;r;s");
        impossibleDue(n, "t", NONE);
        due("the 20th", n.carryOut(), 1);
        due("nouns now", n.nouns(), 20);
    }

    private static void numbersOfNouns() {
        says(TERMS, "numbered from 0 in the order in which they came");
        PluralMint m = fullBook();
        for (int noun = 0; noun < 20; noun++) {
            due("noun " + noun, m.countedLetter(noun, 1, 0), 'a' + noun);
        }
        PluralMint n = mint("z", "b;" + TWELVE, "a");
        same("the first", noun(n, 0), "z");
        same("the second", noun(n, 1), "b");
        same("the third", noun(n, 2), TWELVE);
        same("the last", noun(n, 3), "a");
    }

    private static void noWordTwice() {
        says(TERMS, "no word twice.");
        PluralMint m = fullBook();
        impossibleDue(m, "a", 0);
        impossibleDue(m, "t", 0);
        PluralMint n = mint(TWELVE);
        impossibleDue(n, TWELVE, 0);
        impossibleDue(n, "a;" + TWELVE, 1);
        impossibleDue(n, "a;b;a", 2);
        impossibleDue(n, "abcdefghijkm;abcdefghijk;bcdefghijkl", NONE);
        due("words that are alike but for a letter", n.carryOut(), 3);
        due("nouns", n.nouns(), 4);
    }

    // ---- coins

    private static void coinsBearTheirPlural() {
        says(TERMS, "When coins are struck for a noun, they bear its plural as it is then");
        PluralMint m = mint("a");
        m.strike(0, 3);
        carry(m, "*>x");
        due("those with the old plural", m.staleCoins(), 3);
        m.strike(0, 1);
        due("not those with the new one", m.staleCoins(), 3);
        carry(m, "a=as");
        due("the old plural again", m.staleCoins(), 1);
        m.strike(0, 5);
        due("struck with the table's plural", m.staleCoins(), 1);
        m.dropIrregular();
        due("stale when the table has lost it", m.staleCoins(), 8);
    }

    private static void staleAsLongAs() {
        says(TERMS, "a coin is stale as long as it bears another word than the plural of its noun as it is now.");
        PluralMint m = mint("a;b");
        m.strike(0, 7);
        due("just struck", m.staleCoins(), 0);
        carry(m, "*a>as");
        due("the same word of another die", m.staleCoins(), 0);
        carry(m, "*>ss");
        due("a longer ending goes first", m.staleCoins(), 0);
        carry(m, "*a>ass");
        due("one letter more", m.staleCoins(), 7);
        m.dropDie(3);
        due("no more", m.staleCoins(), 0);
        carry(m, "a=a");
        due("one letter less", m.staleCoins(), 7);
        m.undo();
        due("undone", m.staleCoins(), 0);
        carry(m, "b=as;a=bs");
        due("the plural of another noun does not count", m.staleCoins(), 7);
        carry(m, "a=as");
        due("the plural as it is now", m.staleCoins(), 0);
    }

    private static void heapsOfOneNounAndPlural() {
        says(TERMS, "Coins of one noun with one plural make a heap");
        PluralMint m = mint("axe;axis", "*is>es");
        due("none at first", m.heaps(), 0);
        m.strike(0, 1);
        m.strike(0, 99);
        due("one noun, one plural", m.heaps(), 1);
        m.strike(1, 1);
        due("two nouns with one plural", m.heaps(), 2);
        carry(m, "axe=ax");
        m.strike(0, 1);
        due("one noun with two plurals", m.heaps(), 3);
        m.dropIrregular();
        m.strike(0, 1);
        due("a plural that came back", m.heaps(), 3);
    }

    private static void thirtyHeaps() {
        says(TERMS, "there are up to 30 heaps.");
        PluralMint m = fullHeaps();
        due("heaps", m.heaps(), 30);
        throwsDue("the 31st", STATE, () -> m.strike(10, 1));
        due("heaps still", m.heaps(), 30);
        due("the last one grows", m.strike(9, 1), 4);
        m.dropDie(1);
        due("the first one grows", m.strike(0, 1), 4);
        due("heaps as before", m.heaps(), 30);
        m.melt(19, 1);
        m.undo();
        due("thirty again, undone", m.heaps(), 30);
        m.melt(19, 1);
        carry(m, "*>y");
        due("room for one", m.strike(19, 1), 1);
        throwsDue("and not for two", STATE, () -> m.strike(18, 1));
    }

    private static void oldestHeapsFirst() {
        says(TERMS, "To melt coins of a noun takes them from its oldest heaps first");
        PluralMint m = mint("b;a");
        m.strike(0, 5);
        m.strike(1, 2);
        carry(m, "*a>x");
        m.strike(1, 3);
        carry(m, "*a>y");
        m.strike(1, 4);
        due("one of the oldest", m.melt(1, 1), 8);
        due("stale: one and three", m.staleCoins(), 4);
        due("the rest of the oldest and one of the second", m.melt(1, 2), 6);
        due("two heaps and the other noun's", m.heaps(), 3);
        due("stale: two", m.staleCoins(), 2);
        due("the rest of the second", m.melt(1, 2), 4);
        due("stale: none", m.staleCoins(), 0);
        due("one of the youngest", m.melt(1, 1), 3);
        due("all of it", m.melt(1, 3), 0);
        due("an older heap of another noun", m.coinsOf(0), 5);
        PluralMint n = mint("a");
        n.strike(0, 1);
        carry(n, "*>x");
        n.strike(0, 1);
        n.dropDie(1);
        n.strike(0, 1);
        same("a heap that grows is as old as it was", agesOfHeaps(n), "2/1 1/1 0/0 ");
    }

    private static void heapsWithoutCoins() {
        says(TERMS, "a heap without coins is gone.");
        PluralMint m = mint("a");
        m.strike(0, 2);
        carry(m, "*>x");
        m.strike(0, 3);
        m.melt(0, 1);
        due("one coin left", m.heaps(), 2);
        m.melt(0, 1);
        due("no coin left", m.heaps(), 1);
        m.dropDie(1);
        m.strike(0, 4);
        due("a heap that comes again", m.heaps(), 2);
        m.melt(0, 3);
        due("is the youngest", m.staleCoins(), 0);
        due("and has all its coins", m.coinsOf(0), 4);
        carry(m, "*>x");
        m.meltStale();
        due("gone by meltStale", m.heaps(), 0);
        PluralMint full = fullHeaps();
        full.melt(0, 1);
        due("one of thirty is gone", full.heaps(), 29);
        for (int noun = 0; noun < 20; noun++) {
            due("coins of noun " + noun, full.coinsOf(noun), noun == 0 ? 2 : noun < 10 ? 3 : 1);
        }
        due("coins of all", full.coinsByHeaps(), 39);
        due("stale ones", full.staleCoins(), 19);
        throwsDue("more than the last heap has", STATE, () -> full.melt(9, 4));
        due("all of the last heap", full.melt(9, 3), 0);
        due("two more are gone", full.heaps(), 27);
    }

    // ---- orders

    private static void sixtyCharacters() {
        says(TERMS, "The order text has at most 60 characters");
        PluralMint m = new PluralMint();
        for (int length = 1; length <= 60; length++) {
            due("type", m.type('*'), length);
        }
        throwsDue("the 61st", STATE, () -> m.type('*'));
        throwsDue("the 62nd", STATE, () -> m.type('a'));
        due("length", m.clearText(), 60);
    }

    private static void emptyAtFirst() {
        says(TERMS, "and is empty at first.");
        PluralMint m = new PluralMint();
        due("its error", m.textError(), 0);
        throwsDue("it is no word", STATE, m::possibleNouns);
        due("its length", m.clearText(), 0);
        due("the first sign", m.type('a'), 1);
    }

    private static void ordersAndSeparators() {
        says(TERMS, "A valid text consists of one or more orders with \";\" between two of them:");
        errorDue("a", NONE);
        errorDue("a;b", NONE);
        errorDue("a=b;*>c;d", NONE);
        errorDue("", 0);
        errorDue(";", 0);
        errorDue(";a", 0);
        errorDue("a;", 2);
        errorDue("a;;b", 2);
        errorDue("a,b", 1);
        String thirty = "a" + ";a".repeat(29);
        errorDue(thirty, NONE);
        errorDue(thirty + ";", 60);
        impossibleDue(new PluralMint(), thirty, 1);
        due("twenty orders", textMint("a;b;c;d;e;f;g;h;i;j;k;l;m;n;o;p;q;r;s;t").carryOut(), 20);
    }

    private static void nounOrders() {
        says(TERMS, "a word: a noun comes into the book;");
        PluralMint m = mint("a");
        due("nouns", m.nouns(), 1);
        due("irregulars", m.irregulars(), 0);
        due("dies", m.dies(), 1);
        carry(m, TWELVE);
        due("nouns of twelve letters", m.nouns(), 2);
        same("the word", noun(m, 1), TWELVE);
    }

    private static void irregularOrders() {
        says(TERMS, "a word, \"=\" and a word: the first one is irregular, and the second one is its plural");
        PluralMint m = mint("a=b", TWELVE + "=" + TWELVE);
        due("no noun comes by it", m.nouns(), 0);
        due("irregulars", m.irregulars(), 2);
        carry(m, "b;a;" + TWELVE);
        holds("the second one is not irregular", !m.isIrregular(0));
        holds("the first one is", m.isIrregular(1));
        same("its plural", plural(m, 1), "b");
        same("a plural of twelve letters", plural(m, 2), TWELVE);
        errorDue("=", 0);
        errorDue("a=", 2);
        errorDue("a==b", 2);
        errorDue("a=b=c", 3);
        errorDue("a=*>b", 2);
    }

    private static void irregularOrdersAgain() {
        says(TERMS, "(if the table has it already, this is its plural from now on, "
            + "and it keeps its place among those that came);");
        PluralMint m = mint("a;c", "a=b;c=d;a=e");
        due("irregulars", m.irregulars(), 2);
        same("its plural from now on", plural(m, 0), "e");
        m.dropIrregular();
        holds("it keeps its place", m.isIrregular(0));
        holds("the other one came last", !m.isIrregular(1));
        carry(m, "a=" + TWELVE, "a=f");
        same("a longer one, and a shorter one", plural(m, 0), "f");
        due("one irregular", m.irregulars(), 1);
        PluralMint full = fullTable();
        carry(full, "a;j", "j=y;a=z");
        same("the first of a full table", plural(full, 0), "z");
        same("the last of a full table", plural(full, 1), "y");
        full.dropIrregular();
        holds("the last was dropped", !full.isIrregular(1));
        holds("not the first", full.isIrregular(0));
    }

    private static void dieOrders() {
        says(TERMS, "\"*\", perhaps \"!\" or \"?\", an ending of 0 to 4 letters, \">\" and 1 to 4 letters: "
            + "a die comes, with its ending and what it adds;");
        for (String die : new String[] {"*>a", "*>abcd", "*a>b", "*abcd>efgh", "*!>a", "*?>a", "*!abcd>efgh"}) {
            errorDue(die, NONE);
            due("dies after " + die, mint(die).dies(), 2);
        }
        errorDue("*", 1);
        errorDue("**>a", 1);
        errorDue("*=>a", 1);
        errorDue("*!!>a", 2);
        errorDue("*!?>a", 2);
        errorDue("*?!>a", 2);
        errorDue("*??>a", 2);
        errorDue("*a!>b", 2);
        errorDue("!a>b", 0);
        errorDue("a>b", 1);
        errorDue("*a;", 2);
        errorDue("*a>b>c", 4);
        errorDue("*a>!b", 3);
        errorDue("*a=b", 2);
        PluralMint m = mint("zabcd;" + TWELVE, "*abcd>efgh");
        same("its ending and what it adds", plural(m, 0), "zefgh");
        same("a word without its ending", plural(m, 1), TWELVE + "s");
    }

    private static void signsOfConditions() {
        says(TERMS, "\"!\" means that a consonant has to be ahead of the ending, \"?\" a vowel.");
        PluralMint m = mint("ay;by;y", "*!y>v", "*?y>w");
        due("a vowel", m.dieFor(0), 2);
        due("a consonant", m.dieFor(1), 1);
        due("nothing ahead", m.dieFor(2), 0);
        PluralMint n = mint("ay;by;y", "*!y>v;*y>w");
        due("no condition is left over by the order ahead", n.fitsOf(2), 3);
    }

    /** After each start, the signs that may come next; "a" stands for each letter. */
    private static final String[][] NEXT_SIGNS = {
        {"", "a*"}, {"b", "a;="}, {"bcdefghijkl", "a;="}, {TWELVE, ";="},
        {"b=", "a"}, {"b=c", "a;"}, {TWELVE + "=", "a"}, {"b=bcdefghijkl", "a;"}, {"b=" + TWELVE, ";"},
        {"*", "a!?>"}, {"*!", "a>"}, {"*?", "a>"},
        {"*b", "a>"}, {"*bcd", "a>"}, {"*bcde", ">"}, {"*!bcd", "a>"}, {"*!bcde", ">"}, {"*?bcde", ">"},
        {"*>", "a"}, {"*!>", "a"}, {"*bcde>", "a"}, {"*>b", "a;"}, {"*>bcd", "a;"}, {"*>bcde", ";"},
        {"*bcde>bcde", ";"}, {"b;", "a*"}, {"b=c;", "a*"}, {"*>b;", "a*"}, {"b;" + TWELVE, ";="}, {"b;*bcde", ">"},
        {"b=c;d", "a;="}, {"*b>c;d", "a;="}, {"*b>c;d=e", "a;"}, {"b=c;*!d", "a>"}, {"*!b>c;*", "a!?>"},
    };

    private static void firstErrors() {
        says(TERMS, "The first error of a text is the index of the first character that no valid text");
        for (String[] next : NEXT_SIGNS) {
            for (char sign = 0; sign <= 256 + 'z'; sign++) {
                boolean isLetter = sign >= 'a' && sign <= 'z';
                boolean mayCome = next[1].indexOf(isLetter ? 'a' : sign) >= 0;
                String text = next[0] + sign;
                int error = textMint(text).textError();
                holds("sign " + (int) sign + " after '" + next[0] + "': " + error,
                    mayCome ? error == NONE || error == text.length() : error == next[0].length());
            }
        }
    }

    private static void firstErrorsAnywhere() {
        says(TERMS, "(of any length) can have at that place after the characters before it;");
        String fours = TWELVE + ";" + TWELVE + ";" + TWELVE + ";" + TWELVE + ";";
        errorDue(fours + "abcdefg;", 60);
        errorDue(fours + "*abcd>e;", 60);
        errorDue(fours + "abcdefg*", 59);
        errorDue(fours + "*abcd>e=", 59);
        errorDue(fours + "A=A=A=A=", 52);
        errorDue("A" + TWELVE, 0);
        errorDue("a;A;B", 2);
        errorDue("a=b;c=d;e=f=;;", 11);
    }

    private static void textsThatEndTooEarly() {
        says(TERMS, "if there is none, but the text ends too early (an empty text does), it is the length of the text.");
        String[] early = {"", "a=", TWELVE + "=", "*", "*!", "*?", "*a", "*abcd", "*!abcd", "*>", "*a>", "*abcd>",
            "a;", "a=b;", "*>a;", "a;b=", "a;*", TWELVE + ";" + TWELVE + ";" + TWELVE + ";" + TWELVE + ";abcdefg="};
        for (String text : early) {
            errorDue(text, text.length());
            throwsDue("carryOut of '" + text + "'", STATE, () -> textMint(text).carryOut());
        }
    }

    // ---- undo

    private static final NumberCall[] ACTIONS = {
        (m, number) -> m.strike(0, 1), (m, number) -> m.melt(0, 1), (m, number) -> m.meltStale(),
        (m, number) -> m.dropDie(1), (m, number) -> m.dropIrregular(), (m, number) -> m.carryOut(),
        (m, number) -> m.restoreSnapshot(),
    };

    /** A mint in which each action can be called and changes something, with three states recorded. */
    private static PluralMint ready() {
        PluralMint m = mint("a;by;*!y>ies;a=c");
        m.takeSnapshot();
        m.strike(0, 2);
        carry(m, "a=b");
        write(m, "zo;*o>oes");
        return m;
    }

    private static void actionsRecord() {
        says(TERMS, "Each successful call of a method that is described as an action first records the current state;");
        for (int action = 0; action < ACTIONS.length; action++) {
            PluralMint m = ready();
            String before = picture(m);
            due("ahead of action " + action, m.recordedStates(), 3);
            ACTIONS[action].on(m, 0);
            due("action " + action, m.recordedStates(), 4);
            holds("action " + action + " changes the state", !picture(m).equals(before));
            due("undo of action " + action, m.undo(), 3);
            same("action " + action + " undone", picture(m), before);
        }
        PluralMint m = new PluralMint();
        m.meltStale();
        due("nothing is stale, and it is recorded", m.recordedStates(), 1);
        m.takeSnapshot();
        m.restoreSnapshot();
        due("nothing is other in the snapshot, and it is recorded", m.recordedStates(), 2);
        carry(m, "a=b", "a=b");
        due("the table has that plural, and it is recorded", m.recordedStates(), 4);
    }

    private static void actionsRecordOnlyIfSuccessful() {
        says(TERMS, "Each successful call");
        PluralMint m = mint("a");
        NumberCall[] refused = {(n, x) -> n.strike(1, 1), (n, x) -> n.strike(0, 0), (n, x) -> n.melt(0, 1),
            (n, x) -> n.dropDie(0), (n, x) -> n.dropDie(1), (n, x) -> n.dropIrregular(), (n, x) -> n.carryOut(),
            (n, x) -> n.restoreSnapshot()};
        for (int call = 0; call < refused.length; call++) {
            NumberCall one = refused[call];
            throwsDue("refused action " + call, null, () -> one.on(m, 0));
            due("refused action " + call + " records nothing", m.recordedStates(), 1);
        }
        PluralMint full = fullHeaps();
        throwsDue("a heap too many", STATE, () -> full.strike(10, 1));
        while (full.recordedStates() > 0) {
            full.undo();
        }
        due("the heaps of four strikes are gone", full.heaps(), 26);
    }

    private static void otherCallsRecordNothing() {
        says(TERMS, "of a method that is described as an action");
        PluralMint m = mint("a");
        m.strike(0, 1);
        write(m, "as");
        m.textError();
        m.impossibleOrder();
        m.recallByStriking();
        m.recallByReversing();
        m.possibleNouns();
        m.ambiguousNouns();
        m.takeSnapshot();
        picture(m);
        due("none of them is an action", m.recordedStates(), 2);
        m.undo();
        due("undo is none", m.recordedStates(), 1);
    }

    private static void fourRecordedStates() {
        says(TERMS, "only the latest 4 recorded states are kept.");
        PluralMint m = mint("a");
        m.undo();
        carry(m, "a", "b", "c", "d");
        due("four", m.recordedStates(), 4);
        carry(m, "e");
        due("four of five", m.recordedStates(), 4);
        carry(m, "f");
        due("four of six", m.recordedStates(), 4);
        for (int nouns = 5; nouns >= 2; nouns--) {
            due("undo", m.undo(), nouns - 2);
            due("nouns", m.nouns(), nouns);
        }
        throwsDue("the fifth undo", STATE, m::undo);
        due("the older states are lost", m.nouns(), 2);
        carry(m, "g");
        due("and one is recorded again", m.recordedStates(), 1);
        m.undo();
        due("the latest one", m.nouns(), 2);
    }

    private static void allOfTheState() {
        says(TERMS, "The state consists of everything except");
        PluralMint m = mint("a;by;c", "*!y>ies;a=d");
        m.strike(0, 2);
        m.strike(2, 1);
        carry(m, "a=e");
        m.strike(0, 3);
        m.takeSnapshot();
        String before = picture(m);
        changeAll(m);
        m.undo();
        m.undo();
        m.undo();
        m.undo();
        same("undone four times", picture(m), before);
        changeAll(m);
        holds("changed again", !picture(m).equals(before));
        m.restoreSnapshot();
        same("out of the snapshot", picture(m), before);
        same("ages of heaps", agesOfHeaps(m), "3/1 2/0 2/0 2/0 1/0 0/0 ");
    }

    /** Four actions that change nouns, dies, the table, heaps and accounts. */
    private static void changeAll(PluralMint m) {
        carry(m, "zo;*>x;a=f;c=g");
        m.dropDie(1);
        m.meltStale();
        m.strike(3, 9);
    }

    private static void notOfTheState() {
        says(TERMS, "except the order text, the recorded states and the snapshot.");
        PluralMint m = mint("a", "b", "c");
        write(m, "dy");
        m.undo();
        due("the text is not undone", m.type('z'), 3);
        m.takeSnapshot();
        write(m, "ef");
        m.restoreSnapshot();
        due("the text is not in the snapshot", m.clearText(), 2);
        due("nor are the recorded states", m.recordedStates(), 3);
        m.undo();
        m.undo();
        m.undo();
        due("the snapshot is not undone", m.restoreSnapshot(), 2);
        PluralMint n = mint("a");
        n.takeSnapshot();
        n.undo();
        n.takeSnapshot();
        n.meltStale();
        n.undo();
        due("an undo does not bring back the snapshot ahead", n.restoreSnapshot(), 0);
    }

    // ---- exceptions

    private static void firstListedException() {
        says(TERMS, "If several exceptions apply to a call, the one that is listed first is thrown.");
        PluralMint full = fullHeaps();
        for (int many : new int[] {0, 100, -1, LEAST, GREATEST}) {
            throwsDue("strike: noun and many", INDEX, () -> full.strike(20, many));
            throwsDue("strike: many and heaps", ARGUMENT, () -> full.strike(10, many));
            throwsDue("melt: noun and many", INDEX, () -> full.melt(-1, many));
            throwsDue("melt: many and coins", ARGUMENT, () -> full.melt(10, many));
        }
        throwsDue("strike: noun and heaps", INDEX, () -> full.strike(20, 1));
        throwsDue("melt: noun and coins", INDEX, () -> full.melt(20, 99));
        throwsDue("countedLetter: noun and count", INDEX, () -> full.countedLetter(20, -1, 0));
        throwsDue("countedLetter: noun, count and letter", INDEX, () -> full.countedLetter(-1, 10000, 9));
        throwsDue("countedLetter: count and letter", ARGUMENT, () -> full.countedLetter(0, 10000, 9));
        throwsDue("pluralLetter: noun and letter", INDEX, () -> full.pluralLetter(20, 9));
    }

    private static final NumberCall[] REFUSED = {
        (m, x) -> m.strike(9, 1), (m, x) -> m.strike(0, 0), (m, x) -> m.strike(0, 100), (m, x) -> m.melt(9, 1),
        (m, x) -> m.melt(0, 0), (m, x) -> m.melt(0, 99), (m, x) -> m.melt(0, 100), (m, x) -> m.dropDie(0),
        (m, x) -> m.dropDie(9), (m, x) -> m.impossibleOrder(), (m, x) -> m.carryOut(), (m, x) -> m.lettersOf(9),
        (m, x) -> m.pluralLetters(9), (m, x) -> m.pluralLetter(9, 0), (m, x) -> m.pluralLetter(0, 9),
        (m, x) -> m.countedLetter(0, -1, 0), (m, x) -> m.countedLetter(0, 10000, 0),
        (m, x) -> m.countedLetter(0, 1, 9), (m, x) -> m.isIrregular(9), (m, x) -> m.dieFor(9),
        (m, x) -> m.recallByStriking(), (m, x) -> m.recallByReversing(), (m, x) -> m.possibleNouns(),
        (m, x) -> m.fitsOf(9), (m, x) -> m.coinsOf(9),
    };

    private static void throwingCallsChangeNothing() {
        says(TERMS, "A call that throws an exception changes nothing.");
        String due = unfolded(busy("dx;a=f;*>q;"));
        for (int call = 0; call < REFUSED.length; call++) {
            PluralMint m = busy("dx;a=f;*>q;");
            NumberCall refused = REFUSED[call];
            throwsDue("refused call " + call, null, () -> refused.on(m, 0));
            same("all after refused call " + call, unfolded(m), due);
        }
        PluralMint empty = new PluralMint();
        throwsDue("undo", STATE, empty::undo);
        throwsDue("restoreSnapshot", STATE, empty::restoreSnapshot);
        throwsDue("dropIrregular", STATE, empty::dropIrregular);
        same("all of an empty mint", unfolded(empty), unfolded(new PluralMint()));
        PluralMint full = fullHeaps();
        throwsDue("a heap too many", STATE, () -> full.strike(10, 1));
        same("all of full heaps", picture(full), picture(fullHeaps()));
        due("what full heaps record", full.undo(), 3);
        due("a strike is undone", full.coinsOf(9), 1);
    }

    /** Heaps of several ages, four recorded states, a snapshot, and a text that ends too early. */
    private static PluralMint busy(String text) {
        PluralMint m = mint("a;by", "*!y>ies;a=d");
        m.strike(0, 2);
        m.strike(1, 1);
        m.takeSnapshot();
        carry(m, "a=e");
        m.strike(0, 1);
        m.melt(0, 1);
        write(m, text);
        return m;
    }

    private static void textOfThrowingCalls() {
        says(TERMS, "changes nothing.");
        for (String text : new String[] {"dx;by;*>q", "dx;dx", "dx;A", "A", "dx=c;*>q;a", ""}) {
            PluralMint m = busy(text);
            throwsDue("carryOut of '" + text + "'", STATE, m::carryOut);
            same("all after '" + text + "'", unfolded(m), unfolded(busy(text)));
        }
        PluralMint full = textMint("a=b;" + "*>cdef;".repeat(8));
        throwsDue("type", STATE, () -> full.type('q'));
        throwsDue("carryOut", STATE, full::carryOut);
        due("the length of a full text", full.clearText(), 60);
        PluralMint word = textMint("s;a=b;c=d;e=f;g=h;i=j;k=l;m=n;o=p;q=r;*>s;*>t;*>u;*>v;*>wxyz");
        throwsDue("type at the end", STATE, () -> word.type('q'));
        due("the orders of a full text", word.carryOut(), 15);
        same("none of it is overwritten", plural(word, 0), "swxyz");
    }

    private static void noSuchNoun() {
        says(TERMS, "A method throws an IndexOutOfBoundsException if there is no such noun");
        NumberCall[] calls = {(m, noun) -> m.strike(noun, 1), (m, noun) -> m.melt(noun, 1),
            (m, noun) -> m.lettersOf(noun), (m, noun) -> m.pluralLetters(noun), (m, noun) -> m.pluralLetter(noun, 0),
            (m, noun) -> m.countedLetter(noun, 1, 0), (m, noun) -> m.countedLetter(noun, 0, 0),
            (m, noun) -> m.isIrregular(noun), (m, noun) -> m.dieFor(noun), (m, noun) -> m.coinsOf(noun)};
        for (NumberCall call : calls) {
            nounsAreBounded(call);
        }
    }

    private static void noSuchDieOrLetter() {
        says(TERMS, "no such noun, die, heap or letter.");
        PluralMint m = mint("abc");
        refused("fitsOf", INDEX, m, (n, die) -> n.fitsOf(die), -1, 1, LEAST, GREATEST);
        refused("dropDie", INDEX, m, (n, die) -> n.dropDie(die), -1, 1, LEAST, GREATEST);
        refused("pluralLetter", INDEX, m, (n, place) -> n.pluralLetter(0, place), -1, 4, LEAST, GREATEST);
        refused("the noun's letter", INDEX, m, (n, place) -> n.countedLetter(0, 1, place), -1, 3, LEAST, GREATEST);
        refused("the plural's letter", INDEX, m, (n, place) -> n.countedLetter(0, 2, place), -1, 4, LEAST, GREATEST);
        allowed("pluralLetter", m, (n, place) -> n.pluralLetter(0, place), 0, 3);
        allowed("the noun's letter", m, (n, place) -> n.countedLetter(0, 1, place), 0, 2);
    }

    private static void none() {
        says(TERMS, "The constants: `NONE = -1`: There is no such result.");
        due("NONE", PluralMint.NONE, -1);
        due("textError", textMint("a").textError(), -1);
        due("impossibleOrder", textMint("a").impossibleOrder(), -1);
        due("recallByStriking", textMint("a").recallByStriking(), -1);
        due("recallByReversing", textMint("a").recallByReversing(), -1);
        due("dieFor", mint("a;a=b").dieFor(0), -1);
    }
}
