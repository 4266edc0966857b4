import java.util.ArrayList;
import java.util.List;

/** Tests of each promise with answers written out by hand: ordinary inputs, edges and wrong inputs. */
public final class PromiseTests extends MintChecks {
    public static void main(String[] args) {
        newObject();
        strike();
        strikeAndHeaps();
        melt();
        meltOldestFirst();
        meltStale();
        dropDie();
        dropIrregular();
        type();
        clearText();
        textError();
        textErrorInFullTexts();
        impossibleOrder();
        impossibleOrderAtTheLimits();
        carryOut();
        undo();
        undoAndTexts();
        snapshot();
        lettersOf();
        pluralLetters();
        pluralsByDies();
        pluralsByConditions();
        pluralsByTable();
        pluralLetter();
        countedLetter();
        isIrregular();
        dieFor();
        ambiguousNouns();
        recallByStriking();
        recallByReversing();
        possibleNouns();
        possibleNounsAtTheLimits();
        fitsOf();
        coinsOf();
        staleCoins();
        coinsByHeapsAndAccounts();
        recordedStates();
        everyActionRecordsOneState();
        objectsAreApart();
        finish();
    }

    // ---- promise 1
    private static void newObject() {
        PluralMint m = new PluralMint();
        due("new: nouns", m.nouns(), 0);
        due("new: dies", m.dies(), 1);
        due("new: irregulars", m.irregulars(), 0);
        due("new: heaps", m.heaps(), 0);
        due("new: recorded", m.recordedStates(), 0);
        due("new: coins", m.coinsByHeaps() + m.coinsByAccounts() + m.staleCoins(), 0);
        due("new: text", m.clearText(), 0);
        due("new: fitsOf(0)", m.fitsOf(0), 0);
        due("new: NONE", PluralMint.NONE, -1);
        carry(m, "cat");
        same("new: die 0", plural(m, 0), "cats");
    }

    // ---- promise 2
    private static void strike() {
        PluralMint m = mint("cat;dog");
        due("strike 1", m.strike(0, 1), 1);
        due("strike 99", m.strike(0, 99), 100);
        due("strike other", m.strike(1, 7), 7);
        due("strike again", m.strike(1, 1), 8);
        throwsDue("strike(-1)", INDEX, () -> m.strike(-1, 1));
        throwsDue("strike(2)", INDEX, () -> m.strike(2, 1));
        throwsDue("strike: index first", INDEX, () -> m.strike(2, 0));
        throwsDue("strike 0", ARGUMENT, () -> m.strike(0, 0));
        throwsDue("strike 100", ARGUMENT, () -> m.strike(0, 100));
        throwsDue("strike -1", ARGUMENT, () -> m.strike(0, -1));
        throwsDue("strike least", ARGUMENT, () -> m.strike(0, Integer.MIN_VALUE));
        throwsDue("strike least noun", INDEX, () -> m.strike(Integer.MIN_VALUE, 1));
        throwsDue("strike greatest noun", INDEX, () -> m.strike(Integer.MAX_VALUE, 1));
        due("strike: heaps", m.heaps(), 2);
    }

    private static void strikeAndHeaps() {
        PluralMint m = mint("a;b;c;d;e;f;g;h;i;j", "k;l;m;n;o;p;q;r;s;t");
        for (int noun = 0; noun < 20; noun++) {
            m.strike(noun, 1);
        }
        carry(m, "*>x");
        for (int noun = 0; noun < 10; noun++) {
            due("strike with a new plural", m.strike(noun, 2), 3);
        }
        due("thirty heaps", m.heaps(), 30);
        throwsDue("the 31st heap", STATE, () -> m.strike(10, 1));
        throwsDue("the 31st heap: index first", INDEX, () -> m.strike(20, 1));
        throwsDue("the 31st heap: argument ahead of state", ARGUMENT, () -> m.strike(10, 0));
        due("an old heap grows among thirty", m.strike(9, 1), 4);
        m.dropDie(1);
        due("an old heap comes into use again", m.strike(12, 5), 6);
        due("still thirty heaps", m.heaps(), 30);
        m.melt(12, 6);
        due("twenty-nine heaps", m.heaps(), 29);
        due("room for one", m.strike(12, 1), 1);
        due("thirty again", m.heaps(), 30);
    }

    // ---- promise 3
    private static void melt() {
        PluralMint m = mint("cat;dog");
        m.strike(0, 99);
        m.strike(0, 2);
        m.strike(1, 1);
        due("melt 1", m.melt(0, 1), 100);
        due("melt 99", m.melt(0, 99), 1);
        throwsDue("melt too many", STATE, () -> m.melt(0, 2));
        due("melt all", m.melt(0, 1), 0);
        due("melt: the heap is gone", m.heaps(), 1);
        throwsDue("melt without coins", STATE, () -> m.melt(0, 1));
        throwsDue("melt(-1)", INDEX, () -> m.melt(-1, 1));
        throwsDue("melt(2)", INDEX, () -> m.melt(2, 100));
        throwsDue("melt 0", ARGUMENT, () -> m.melt(1, 0));
        throwsDue("melt 100", ARGUMENT, () -> m.melt(1, 100));
        throwsDue("melt: argument ahead of state", ARGUMENT, () -> m.melt(0, -5));
        due("melt left the other", m.coinsOf(1), 1);
    }

    private static void meltOldestFirst() {
        PluralMint m = mint("cat;dog");
        m.strike(1, 50);
        m.strike(0, 3);
        carry(m, "*>x");
        m.strike(0, 4);
        carry(m, "*>y");
        m.strike(0, 5);
        m.dropDie(2);
        m.dropDie(1);
        m.strike(0, 2);
        due("cats 5, catx 4, caty 5", m.heaps(), 4);
        due("stale at first", m.staleCoins(), 9);
        due("melt part of the oldest", m.melt(0, 4), 10);
        due("the oldest has one left", m.coinsByHeaps() - m.staleCoins(), 51);
        due("melt over two heaps", m.melt(0, 3), 7);
        due("heaps after two", m.heaps(), 3);
        due("stale after two", m.staleCoins(), 7);
        m.strike(0, 1);
        due("a heap that comes again is the youngest", m.melt(0, 7), 1);
        due("stale after all the older", m.staleCoins(), 0);
        due("the dog's coins stay", m.coinsOf(1), 50);
    }

    // ---- promise 4
    private static void meltStale() {
        PluralMint m = mint("cat;cow;hen");
        due("nothing stale", m.meltStale(), 0);
        due("it is an action all the same", m.recordedStates(), 2);
        m.strike(0, 10);
        m.strike(1, 20);
        m.strike(2, 30);
        carry(m, "*w>wz", "hen=hena");
        m.strike(1, 1);
        due("stale of two nouns", m.meltStale(), 50);
        due("left: cats and cowz", m.coinsByHeaps(), 11);
        due("heaps left", m.heaps(), 2);
        due("accounts", m.coinsByAccounts(), 11);
        due("coins of cow", m.coinsOf(1), 1);
        due("coins of hen", m.coinsOf(2), 0);
        due("the later heaps keep their words and owners", m.staleCoins(), 0);
        due("and their coins", m.melt(0, 4), 6);
        m.undo();
        m.undo();
        due("undone", m.coinsByAccounts(), 61);
        m.dropIrregular();
        due("no more stale hens", m.meltStale(), 20);
    }

    // ---- promise 5
    private static void dropDie() {
        PluralMint m = mint("cat;cow", "*t>tx;*w>wy;*!t>tz");
        throwsDue("dropDie(-1)", INDEX, () -> m.dropDie(-1));
        throwsDue("dropDie(4)", INDEX, () -> m.dropDie(4));
        throwsDue("dropDie(0)", STATE, () -> m.dropDie(0));
        throwsDue("dropDie least", INDEX, () -> m.dropDie(Integer.MIN_VALUE));
        due("dropDie(1)", m.dropDie(1), 3);
        due("the numbers are less by one", m.dieFor(1), 1);
        same("endings and additions move on", plural(m, 1), "cowy");
        due("a condition moves on", m.fitsOf(2), 0);
        due("dropDie(2)", m.dropDie(2), 2);
        due("dropDie(1) again", m.dropDie(1), 1);
        same("die 0 is left", plural(m, 1), "cows");
        throwsDue("dropDie(1) is gone", INDEX, () -> m.dropDie(1));
        throwsDue("dropDie(0) alone", STATE, () -> m.dropDie(0));
        carry(m, "*!t>tz");
        due("the condition of a new die", m.fitsOf(1), 0);
        carry(m, "*t>tz");
        due("no condition of an older die", m.fitsOf(2), 1);
    }

    // ---- promise 6
    private static void dropIrregular() {
        PluralMint m = mint("ox;man;ox=oxen;man=men;ox=oxa");
        due("two irregulars", m.irregulars(), 2);
        due("dropIrregular", m.dropIrregular(), 1);
        due("man came last", m.isIrregular(1) ? 1 : 0, 0);
        same("ox keeps its last plural", plural(m, 0), "oxa");
        due("dropIrregular again", m.dropIrregular(), 0);
        same("ox is regular", plural(m, 0), "oxs");
        throwsDue("dropIrregular from an empty table", STATE, m::dropIrregular);
    }

    // ---- promise 7
    private static void type() {
        PluralMint m = new PluralMint();
        due("type a", m.type('a'), 1);
        due("type NUL", m.type((char) 0), 2);
        due("type the greatest", m.type((char) 65535), 3);
        due("type another", m.type((char) 300), 4);
        for (int i = 5; i <= 60; i++) {
            due("type", m.type('z'), i);
        }
        throwsDue("type the 61st", STATE, () -> m.type('a'));
        throwsDue("type the 61st again", STATE, () -> m.type((char) 65535));
        due("sixty stay", m.clearText(), 60);
        due("and there is room again", m.type('b'), 1);
    }

    // ---- promise 8
    private static void clearText() {
        PluralMint m = new PluralMint();
        due("clear nothing", m.clearText(), 0);
        put(m, "a;b=c");
        due("clear five", m.clearText(), 5);
        due("clear again", m.clearText(), 0);
        put(m, "x");
        due("nothing of the old text is left", m.textError(), PluralMint.NONE);
        due("clear one", m.clearText(), 1);
    }

    // ---- promise 9
    private static void textError() {
        String[] valid = {"a", "z", "abcdefghijkl", "a=b", "abcdefghijkl=mnopqrstuvwx", "*>s", "*!>s", "*?>s",
            "*y>ies", "*abcd>efgh", "*!abcd>efgh", "*?abcd>efgh", "a;b", "*>a;b=c;*!d>e;f", "a=b;*>c",
            "a;abcdefghijkl;abcdefghijkl=abcdefghijkl"};
        for (String text : valid) {
            errorDue(text, PluralMint.NONE);
        }
        errorDue("", 0);
        errorDue("A", 0);
        errorDue(";", 0);
        errorDue("=", 0);
        errorDue("!", 0);
        errorDue(">", 0);
        errorDue(" a", 0);
        errorDue("`", 0);
        errorDue("{", 0);
        errorDue("abcdefghijklm", 12);
        errorDue("abcdefghijkl!", 12);
        errorDue("a=", 2);
        errorDue("a=;", 2);
        errorDue("a==", 2);
        errorDue("a=*", 2);
        errorDue("a=abcdefghijklm", 14);
        errorDue("a=b=", 3);
        errorDue("a=b>", 3);
        errorDue("a>b", 1);
        errorDue("a*", 1);
        errorDue("a?", 1);
        errorDue("*", 1);
        errorDue("**", 1);
        errorDue("*=", 1);
        errorDue("*;", 1);
        errorDue("*!", 2);
        errorDue("*!!", 2);
        errorDue("*!?", 2);
        errorDue("*??", 2);
        errorDue("*a!", 2);
        errorDue("*ab", 3);
        errorDue("*ab;", 3);
        errorDue("*ab=", 3);
        errorDue("*abcde", 5);
        errorDue("*!abcde", 6);
        errorDue("*>", 2);
        errorDue("*>;", 2);
        errorDue("*>>", 2);
        errorDue("*>!", 2);
        errorDue("*>abcde", 6);
        errorDue("*a>b>", 4);
        errorDue("*a>b=", 4);
        errorDue("*a>b*", 4);
        errorDue("a;", 2);
        errorDue("a;;", 2);
        errorDue("a;=", 2);
        errorDue("a;b;", 4);
        errorDue("a b", 1);
        errorDue("a" + (char) 225, 1);
        errorDue("a" + (char) (256 + 'b'), 1);
        errorDue("a" + (char) 0, 1);
        errorDue("*>s;*>t;A", 8);
    }

    private static void textErrorInFullTexts() {
        String twelve = "abcdefghijkl";
        String four = twelve + ";" + twelve + ";" + twelve + ";" + twelve + ";";
        errorDue(four + "abcdefgh", PluralMint.NONE);
        errorDue(four + "abcdefg;", 60);
        errorDue(four + "abcdefg=", 60);
        errorDue(four + "abcdef=A", 59);
        errorDue(four + "*abcd>e;", 60);
    }

    // ---- promise 10
    private static void impossibleOrder() {
        PluralMint m = mint("cat");
        impossibleDue(m, "dog;*>x;cow=kine", PluralMint.NONE);
        impossibleDue(m, "cat", 0);
        impossibleDue(m, "dog;cat", 1);
        impossibleDue(m, "dog;dog", 1);
        impossibleDue(m, "dog;cat=x;dog;cat", 2);
        impossibleDue(m, "cat=cat;cat=dog", PluralMint.NONE);
        due("nothing is carried out", m.nouns() + m.irregulars() + m.dies(), 2);
        due("nothing is recorded", m.recordedStates(), 1);
        for (String text : new String[] {"", "a;", "*", "A", "a=b=c"}) {
            write(m, text);
            throwsDue("impossibleOrder of " + text, STATE, m::impossibleOrder);
        }
    }

    private static void impossibleOrderAtTheLimits() {
        PluralMint m = mint("a;b;c;d;e;f;g;h;i;j;k;l;m;n;o;p;q;r");
        impossibleDue(m, "s;t", PluralMint.NONE);
        impossibleDue(m, "s;t;u", 2);
        carry(m, "s;t");
        impossibleDue(m, "*>x;u", 1);
        impossibleDue(m, "a=b;c=d;e=f;g=h;i=j;k=l;m=n;o=p;q=r;s=t;a=z", PluralMint.NONE);
        impossibleDue(m, "a=b;c=d;e=f;g=h;i=j;k=l;m=n;o=p;q=r;s=t;u=v", 10);
        carry(m, "a=b;c=d;e=f;g=h;i=j;k=l;m=n;o=p;q=r");
        impossibleDue(m, "s=t;u=v", 1);
        carry(m, "s=t");
        impossibleDue(m, "s=z;u=v", 1);
        impossibleDue(m, "q=z", PluralMint.NONE);
        impossibleDue(m, "*>a;*>b;*>c;*>d;*>e;*>f;*>g;*>h;*>i;*>j;*>k", PluralMint.NONE);
        impossibleDue(m, "*>a;*>b;*>c;*>d;*>e;*>f;*>g;*>h;*>i;*>j;*>k;*>l", 11);
        carry(m, "*>a;*>b;*>c;*>d;*>e;*>f;*>g;*>h;*>i;*>j;*>k");
        due("twelve dies", m.dies(), 12);
        impossibleDue(m, "*>a", 0);
        m.dropDie(5);
        impossibleDue(m, "*>a;*>a", 1);
        m.dropIrregular();
        impossibleDue(m, "u=v;w=x", 1);
    }

    // ---- promise 11
    private static void carryOut() {
        PluralMint m = new PluralMint();
        put(m, "cat;*t>tz;cat=catx;dog");
        due("carryOut", m.carryOut(), 4);
        due("one action", m.recordedStates(), 1);
        due("nouns", m.nouns(), 2);
        due("dies", m.dies(), 2);
        due("irregulars", m.irregulars(), 1);
        same("the text stays as it is", plural(m, 0), "catx");
        throwsDue("carryOut again: the noun is there", STATE, m::carryOut);
        due("the text stays", m.clearText(), 22);
        throwsDue("carryOut of nothing", STATE, m::carryOut);
        write(m, "cow;");
        throwsDue("carryOut of an invalid text", STATE, m::carryOut);
        write(m, "cow;*>x;cat;hen");
        throwsDue("carryOut with one impossible", STATE, m::carryOut);
        due("no part is carried out: nouns", m.nouns(), 2);
        due("no part is carried out: dies", m.dies(), 2);
        due("nothing more is recorded", m.recordedStates(), 1);
        write(m, "*>x");
        due("carryOut a die", m.carryOut(), 1);
        due("carryOut the same die again", m.carryOut(), 1);
        due("dies may be alike", m.dies(), 4);
        m.undo();
        due("undo of one", m.dies(), 3);
        write(m, "a;b;c;d;e;f;g;h;i;j;k;l;m;n;o;p;q;r");
        due("eighteen orders", m.carryOut(), 18);
        due("twenty nouns", m.nouns(), 20);
        write(m, "s");
        throwsDue("the 21st noun", STATE, m::carryOut);
    }

    // ---- promise 12
    private static void undo() {
        PluralMint m = new PluralMint();
        throwsDue("undo of nothing", STATE, m::undo);
        String[] texts = {"cat", "*t>tx;dog", "cat=caty", "cow;dog=dags", "*!w>wi", "hen;hen=hens"};
        List<String> states = new ArrayList<>();
        for (String text : texts) {
            states.add(picture(m));
            carry(m, text);
        }
        for (int left = 3; left >= 0; left--) {
            due("undo", m.undo(), left);
            same("undo brings back", picture(m), states.get(left + 2));
        }
        throwsDue("only four", STATE, m::undo);
        same("nothing changed", picture(m), states.get(2));
    }

    private static void undoAndTexts() {
        PluralMint m = mint("cat;dog");
        m.strike(0, 5);
        m.strike(1, 6);
        m.melt(0, 5);
        due("heaps", m.heaps(), 1);
        due("undo", m.undo(), 3);
        due("the heap is back", m.heaps(), 2);
        due("the coins are back", m.coinsOf(0), 5);
        due("the accounts are back", m.coinsByAccounts(), 11);
        due("the text is not part of it", m.clearText(), 7);
        m.takeSnapshot();
        m.undo();
        m.undo();
        m.undo();
        due("the snapshot is not part of it", m.restoreSnapshot(), 2);
        due("coins of the snapshot", m.coinsByHeaps(), 11);
    }

    // ---- promises 13 and 14
    private static void snapshot() {
        PluralMint m = new PluralMint();
        throwsDue("no snapshot", STATE, m::restoreSnapshot);
        due("nothing is recorded by it", m.recordedStates(), 0);
        due("snapshot of the empty book", m.takeSnapshot(), 0);
        due("a snapshot is no action", m.recordedStates(), 0);
        carry(m, "cat;*t>tx;cat=catz");
        m.strike(0, 9);
        String before = picture(m);
        due("snapshot again", m.takeSnapshot(), 1);
        carry(m, "dog", "*>e", "dog=dags");
        m.meltStale();
        m.melt(0, 9);
        due("restore", m.restoreSnapshot(), 1);
        due("restore is an action", m.recordedStates(), 4);
        m.undo();
        due("restore is undone", m.nouns(), 2);
        m.restoreSnapshot();
        due("restore keeps the snapshot", m.restoreSnapshot(), 1);
        for (int i = 0; i < 4; i++) {
            m.undo();
        }
        m.restoreSnapshot();
        m.undo();
        m.restoreSnapshot();
        due("one recorded", m.undo(), 0);
        m.restoreSnapshot();
        same("all of the state", picture(m), before);
        carry(m, "hen");
        m.restoreSnapshot();
        due("changes after a restore do not reach the snapshot", m.nouns(), 1);
        write(m, "abc");
        m.restoreSnapshot();
        due("the text is not part of it", m.clearText(), 3);
    }

    // ---- promises 15 and 16
    private static void lettersOf() {
        PluralMint m = mint("a;abcdefghijkl;cow");
        due("nouns", m.nouns(), 3);
        due("one letter", m.lettersOf(0), 1);
        due("twelve letters", m.lettersOf(1), 12);
        due("three letters", m.lettersOf(2), 3);
        throwsDue("lettersOf(-1)", INDEX, () -> m.lettersOf(-1));
        throwsDue("lettersOf(3)", INDEX, () -> m.lettersOf(3));
        carry(m, "x=y");
        due("an irregular word is no noun of the book", m.nouns(), 3);
        throwsDue("lettersOf(3) still", INDEX, () -> m.lettersOf(3));
    }

    // ---- promise 17
    private static void pluralLetters() {
        PluralMint m = mint("a;abcdefghijkl;cow");
        due("as", m.pluralLetters(0), 2);
        due("abcdefghijkls", m.pluralLetters(1), 13);
        carry(m, "*>wxyz", "cow=i");
        due("awxyz", m.pluralLetters(0), 5);
        due("sixteen letters", m.pluralLetters(1), 16);
        due("i", m.pluralLetters(2), 1);
        throwsDue("pluralLetters(3)", INDEX, () -> m.pluralLetters(3));
        throwsDue("pluralLetters(-1)", INDEX, () -> m.pluralLetters(-1));
    }

    private static void pluralsByDies() {
        PluralMint m = mint("sky;y;ky;abc", "*ky>kies;*y>ies;*y>yz;*>e");
        same("the longest ending", plural(m, 0), "skies");
        same("a word that is the ending", plural(m, 1), "yz");
        same("a longer one that is the ending", plural(m, 2), "kies");
        same("the last of the empty endings", plural(m, 3), "abce");
        m.dropDie(4);
        same("die 0 again", plural(m, 3), "abcs");
        carry(m, "*abcd>x", "*bc>q");
        same("an ending longer than the word", plural(m, 3), "aq");
        carry(m, "*abc>qrst");
        same("the whole word", plural(m, 3), "qrst");
        PluralMint n = mint("abcdefghijkl", "*ijkl>wxyz");
        same("four letters for four", plural(n, 0), "abcdefghwxyz");
    }

    private static void pluralsByConditions() {
        String vowels = "aeiou";
        for (char letter = 'a'; letter <= 'z'; letter++) {
            PluralMint m = mint(letter + "y", "*!y>c;*?y>v");
            boolean isVowel = vowels.indexOf(letter) >= 0;
            same("ahead: " + letter, plural(m, 0), letter + (isVowel ? "v" : "c"));
            PluralMint n = mint("" + letter, "*!>c;*?>v");
            same("last: " + letter, plural(n, 0), letter + (isVowel ? "v" : "c"));
        }
        PluralMint m = mint("y;by;ay", "*!y>c", "*?y>v");
        same("a condition needs a letter ahead", plural(m, 0), "ys");
        same("a consonant ahead", plural(m, 1), "bc");
        same("a vowel ahead", plural(m, 2), "av");
        carry(m, "*y>w");
        same("no condition, a greater number", plural(m, 1), "bw");
        same("no condition, no letter ahead", plural(m, 0), "w");
    }

    private static void pluralsByTable() {
        PluralMint m = mint("ox;oxx", "ox=oxen", "*x>xes");
        same("the table goes first", plural(m, 0), "oxen");
        same("only the very word", plural(m, 1), "oxxes");
        carry(m, "ox=ox");
        same("its plural from now on", plural(m, 0), "ox");
        carry(m, "oxx=abcdefghijkl");
        same("twelve letters", plural(m, 1), "abcdefghijkl");
        carry(m, "oxx=b");
        same("a shorter one", plural(m, 1), "b");
    }

    // ---- promise 18
    private static void pluralLetter() {
        PluralMint m = mint("cat;abcdefghijkl", "*l>wxyz");
        due("c", m.pluralLetter(0, 0), 'c');
        due("s", m.pluralLetter(0, 3), 's');
        throwsDue("pluralLetter(0, 4)", INDEX, () -> m.pluralLetter(0, 4));
        throwsDue("pluralLetter(0, -1)", INDEX, () -> m.pluralLetter(0, -1));
        throwsDue("pluralLetter(0, least)", INDEX, () -> m.pluralLetter(0, Integer.MIN_VALUE));
        throwsDue("pluralLetter(0, greatest)", INDEX, () -> m.pluralLetter(0, Integer.MAX_VALUE));
        throwsDue("pluralLetter(2, 0)", INDEX, () -> m.pluralLetter(2, 0));
        throwsDue("pluralLetter(-1, 0)", INDEX, () -> m.pluralLetter(-1, 0));
        due("z", m.pluralLetter(1, 14), 'z');
        throwsDue("pluralLetter(1, 15)", INDEX, () -> m.pluralLetter(1, 15));
    }

    // ---- promise 19
    private static void countedLetter() {
        PluralMint m = mint("cow;abcdefghijkl", "cow=kine", "*>wxyz");
        due("one cow", m.countedLetter(0, 1, 0), 'c');
        due("one cow, last", m.countedLetter(0, 1, 2), 'w');
        throwsDue("one cow has no fourth letter", INDEX, () -> m.countedLetter(0, 1, 3));
        due("no kine", m.countedLetter(0, 0, 0), 'k');
        due("two kine", m.countedLetter(0, 2, 3), 'e');
        due("9999 kine", m.countedLetter(0, 9999, 1), 'i');
        throwsDue("kine have no fifth letter", INDEX, () -> m.countedLetter(0, 2, 4));
        throwsDue("no letter -1", INDEX, () -> m.countedLetter(0, 1, -1));
        throwsDue("count -1", ARGUMENT, () -> m.countedLetter(0, -1, 0));
        throwsDue("count 10000", ARGUMENT, () -> m.countedLetter(0, 10000, 0));
        throwsDue("the letter is not looked at", ARGUMENT, () -> m.countedLetter(0, 10000, 99));
        throwsDue("the noun is looked at first", INDEX, () -> m.countedLetter(2, 10000, 0));
        throwsDue("noun -1", INDEX, () -> m.countedLetter(-1, 1, 0));
        due("the sixteenth letter", m.countedLetter(1, 5, 15), 'z');
        throwsDue("the seventeenth letter", INDEX, () -> m.countedLetter(1, 5, 16));
        throwsDue("the thirteenth letter of the noun", INDEX, () -> m.countedLetter(1, 1, 12));
    }

    // ---- promise 20
    private static void isIrregular() {
        PluralMint m = mint("cow;sheep;cat;shee", "cow=cows;sheep=sheep;dog=dags");
        due("even with a regular plural", m.isIrregular(0) ? 1 : 0, 1);
        due("sheep", m.isIrregular(1) ? 1 : 0, 1);
        due("cat", m.isIrregular(2) ? 1 : 0, 0);
        due("shee", m.isIrregular(3) ? 1 : 0, 0);
        throwsDue("isIrregular(4)", INDEX, () -> m.isIrregular(4));
        throwsDue("isIrregular(-1)", INDEX, () -> m.isIrregular(-1));
        carry(m, "dog");
        due("a noun that came later", m.isIrregular(4) ? 1 : 0, 1);
    }

    // ---- promise 21
    private static void dieFor() {
        PluralMint m = mint("sky;toy;bus;ox", "*y>x;*!y>z;*us>i;*s>t;ox=oxen");
        due("sky", m.dieFor(0), 2);
        due("toy", m.dieFor(1), 1);
        due("bus", m.dieFor(2), 3);
        due("ox", m.dieFor(3), PluralMint.NONE);
        throwsDue("dieFor(4)", INDEX, () -> m.dieFor(4));
        throwsDue("dieFor(-1)", INDEX, () -> m.dieFor(-1));
        m.dropIrregular();
        due("ox is regular", m.dieFor(3), 0);
        carry(m, "*>e");
        due("an empty ending that came later", m.dieFor(3), 5);
        due("a longer ending stays ahead", m.dieFor(2), 3);
    }

    // ---- promise 22
    private static void ambiguousNouns() {
        PluralMint m = mint("axe;axis;cat;dog;cow");
        due("none", m.ambiguousNouns(), 0);
        carry(m, "*is>es");
        due("a pair", m.ambiguousNouns(), 2);
        carry(m, "cat=axes");
        due("three of one plural", m.ambiguousNouns(), 3);
        carry(m, "dog=cows");
        due("and a pair", m.ambiguousNouns(), 5);
        carry(m, "hen=cows");
        due("a word outside the book does not count", m.ambiguousNouns(), 5);
        carry(m, "cow=x");
        due("a single plural again", m.ambiguousNouns(), 3);
        PluralMint n = mint("cat;cats", "cat=cats;cats=catss");
        due("a plural that is another noun", n.ambiguousNouns(), 0);
    }

    // ---- promise 23
    private static void recallByStriking() {
        PluralMint m = mint("axis;axe;ox;abcdefghijkl", "*is>es", "ox=oxen");
        recallDue(m, "axes", 0);
        recallDue(m, "oxen", 2);
        recallDue(m, "oxs", PluralMint.NONE);
        recallDue(m, "axiss", PluralMint.NONE);
        recallDue(m, "axis", PluralMint.NONE);
        recallDue(m, "axe", PluralMint.NONE);
        recallDue(m, "axesx", PluralMint.NONE);
        recallDue(m, "s", PluralMint.NONE);
        recallDue(m, "abcdefghijkl", PluralMint.NONE);
        for (String text : new String[] {"", "a;b", "a=b", "*>s", "A", "abcdefghijkls", "axes;", "a1", "1"}) {
            write(m, text);
            throwsDue("recallByStriking of " + text, STATE, m::recallByStriking);
            throwsDue("recallByReversing of " + text, STATE, m::recallByReversing);
            throwsDue("possibleNouns of " + text, STATE, m::possibleNouns);
        }
        m.dropIrregular();
        m.dropDie(1);
        recallDue(m, "axes", 1);
    }

    // ---- promise 24
    private static void recallByReversing() {
        PluralMint m = mint("cat;catx;caty;hen", "*x>s;*y>s;hen=cats");
        recallDue(m, "cats", 0);
        m.takeSnapshot();
        carry(m, "cat=catz");
        recallDue(m, "cats", 1);
        recallDue(m, "catz", 0);
        carry(m, "catx=a", "caty=b");
        recallDue(m, "cats", 3);
        carry(m, "hen=c");
        recallDue(m, "cats", PluralMint.NONE);
        m.restoreSnapshot();
        recallDue(m, "cats", 0);
        PluralMint n = mint("hen", "cock=hens;hen=eggs");
        recallDue(n, "hens", PluralMint.NONE);
        carry(n, "cock");
        recallDue(n, "hens", 1);
        PluralMint order = mint("hen;cat", "hen=cats");
        recallDue(order, "cats", 0);
        PluralMint dies = mint("bx;by;bz", "*z>s", "*y>s", "*x>s");
        recallDue(dies, "bs", 0);
    }

    // ---- promise 25
    private static void possibleNouns() {
        PluralMint m = new PluralMint();
        possibleDue(m, "cats", 1);
        possibleDue(m, "cat", 0);
        possibleDue(m, "s", 0);
        possibleDue(m, "ss", 1);
        carry(m, "cat=catz");
        possibleDue(m, "cats", 0);
        possibleDue(m, "catz", 1);
        carry(m, "hen=cats");
        possibleDue(m, "cats", 1);
        carry(m, "cat=cats");
        possibleDue(m, "cats", 2);
        carry(m, "*>s", "*>s");
        possibleDue(m, "cats", 2);
        possibleDue(m, "dogs", 1);
        carry(m, "*x>s");
        possibleDue(m, "dogs", 2);
        possibleDue(m, "s", 1);
        carry(m, "*!y>s");
        possibleDue(m, "dogs", 3);
        possibleDue(m, "das", 2);
        carry(m, "*og>ogs", "dog=d");
        possibleDue(m, "dogs", 2);
    }

    private static void possibleNounsAtTheLimits() {
        PluralMint m = mint("*abcd>x");
        possibleDue(m, "zzzzzzzzx", 1);
        possibleDue(m, "zzzzzzzzzx", 0);
        possibleDue(m, "zzzzzzzzzzzx", 0);
        possibleDue(m, "x", 1);
        possibleDue(m, "abcdefghijks", 1);
        PluralMint n = mint("a=x;b=x;c=x;d=x;e=x;f=x;g=x;h=x;i=x;j=x");
        carry(n, "*k>x;*l>x;*m>x;*n>x;*o>x;*p>x;*q>x;*r>x;*s>x;*t>x;*u>x");
        possibleDue(n, "x", 21);
        possibleDue(n, "xx", 11);
        carry(n, "u");
        recallDue(n, "x", 0);
    }

    // ---- promises 26, 27 and 28
    private static void fitsOf() {
        PluralMint m = mint("sky;toy;y;ox;by", "*y>x;*!y>z;*?y>w;*!>v;*?>u;*sky>t", "sky=skyx");
        due("dies", m.dies(), 7);
        due("irregulars", m.irregulars(), 1);
        due("all", m.fitsOf(0), 5);
        due("y", m.fitsOf(1), 4);
        due("consonant and y", m.fitsOf(2), 2);
        due("vowel and y", m.fitsOf(3), 1);
        due("ends with a consonant", m.fitsOf(4), 5);
        due("ends with a vowel", m.fitsOf(5), 0);
        due("sky", m.fitsOf(6), 1);
        throwsDue("fitsOf(7)", INDEX, () -> m.fitsOf(7));
        throwsDue("fitsOf(-1)", INDEX, () -> m.fitsOf(-1));
        carry(m, "a");
        due("ends with a vowel now", m.fitsOf(5), 1);
    }

    // ---- promises 29 and 30
    private static void coinsOf() {
        PluralMint m = mint("cat;dog");
        due("none yet", m.coinsOf(0), 0);
        m.strike(0, 5);
        carry(m, "*>x");
        m.strike(0, 6);
        m.strike(1, 7);
        due("of two heaps", m.coinsOf(0), 11);
        due("of one heap", m.coinsOf(1), 7);
        due("heaps", m.heaps(), 3);
        throwsDue("coinsOf(2)", INDEX, () -> m.coinsOf(2));
        throwsDue("coinsOf(-1)", INDEX, () -> m.coinsOf(-1));
        PluralMint n = mint("axe;axis", "*is>es");
        n.strike(0, 1);
        n.strike(1, 2);
        due("two nouns with one plural have two heaps", n.heaps(), 2);
        due("and coins of their own", n.coinsOf(0), 1);
    }

    // ---- promise 31
    private static void staleCoins() {
        PluralMint m = mint("cat;cow");
        m.strike(0, 5);
        m.strike(1, 6);
        due("none", m.staleCoins(), 0);
        carry(m, "*t>tx");
        due("cats", m.staleCoins(), 5);
        carry(m, "*t>ts");
        due("the same word again, by another die", m.staleCoins(), 0);
        carry(m, "cow=kine", "cat=cats");
        due("cows", m.staleCoins(), 6);
        m.strike(1, 1);
        due("kine are fresh", m.staleCoins(), 6);
        m.dropIrregular();
        due("by the die still cats", m.staleCoins(), 6);
        m.dropIrregular();
        due("kine are stale", m.staleCoins(), 1);
    }

    // ---- promises 32 and 33
    private static void coinsByHeapsAndAccounts() {
        PluralMint m = mint("cat;cow");
        m.strike(0, 99);
        m.strike(1, 50);
        m.melt(0, 20);
        due("by heaps", m.coinsByHeaps(), 129);
        due("by accounts", m.coinsByAccounts(), 129);
        carry(m, "cow=kine");
        m.meltStale();
        due("by heaps without stale ones", m.coinsByHeaps(), 79);
        due("by accounts without stale ones", m.coinsByAccounts(), 79);
        m.undo();
        due("by heaps, undone", m.coinsByHeaps(), 129);
        due("by accounts, undone", m.coinsByAccounts(), 129);
        for (int i = 0; i < 200; i++) {
            m.strike(0, 99);
        }
        due("many by heaps", m.coinsByHeaps(), 129 + 19800);
        due("many by accounts", m.coinsByAccounts(), 129 + 19800);
    }

    // ---- promise 34
    private static void recordedStates() {
        PluralMint m = new PluralMint();
        due("none", m.recordedStates(), 0);
        for (int i = 1; i <= 7; i++) {
            m.meltStale();
            due("at most four", m.recordedStates(), Math.min(i, 4));
        }
        for (int left = 3; left >= 0; left--) {
            due("undo answers", m.undo(), left);
            due("and it is so", m.recordedStates(), left);
        }
        m.takeSnapshot();
        due("a snapshot is not recorded", m.recordedStates(), 0);
    }

    private static void everyActionRecordsOneState() {
        PluralMint m = mint("cat;*>x;cat=catz");
        due("carryOut", m.recordedStates(), 1);
        m.strike(0, 5);
        due("strike", m.recordedStates(), 2);
        m.melt(0, 1);
        due("melt", m.recordedStates(), 3);
        m.meltStale();
        due("meltStale", m.recordedStates(), 4);
        m.undo();
        m.undo();
        m.dropDie(1);
        due("dropDie", m.recordedStates(), 3);
        m.dropIrregular();
        due("dropIrregular", m.recordedStates(), 4);
        m.takeSnapshot();
        m.undo();
        due("undo is no action", m.recordedStates(), 3);
        m.restoreSnapshot();
        due("restoreSnapshot", m.recordedStates(), 4);
        m.undo();
        m.undo();
        due("back ahead of dropDie: dies", m.dies(), 2);
        due("back ahead of dropDie: coins", m.coinsByHeaps(), 5);
        write(m, "cats");
        m.textError();
        m.impossibleOrder();
        m.recallByStriking();
        m.recallByReversing();
        m.possibleNouns();
        due("answers record nothing", m.recordedStates(), 2);
    }

    private static void objectsAreApart() {
        PluralMint m = mint("cat", "cat=x", "*t>y");
        PluralMint n = new PluralMint();
        due("nouns of another", n.nouns(), 0);
        due("dies of another", n.dies(), 1);
        m.takeSnapshot();
        throwsDue("the snapshot of another", STATE, n::restoreSnapshot);
    }
}
