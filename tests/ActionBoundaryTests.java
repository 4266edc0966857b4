/** Tests of each sentence of promises 1 to 14 (actions, order texts, undo, snapshot) at the boundaries that it names. */
public final class ActionBoundaryTests extends MintChecks {
    private static final int[] OUT_OF_RANGE = {0, 100, -1, LEAST, GREATEST};
    private static final String TWELVE = "abcdefghijkl";
    private static final String[] INVALID = {"", "A", "a;", "a=", "*", "*a>", ";a", TWELVE + "m", "a=b=c", "a;A"};

    public static void main(String[] args) {
        newObject();
        strike();
        strikeThrows();
        melt();
        meltThrows();
        meltStale();
        dropDie();
        dropDieThrows();
        dropIrregular();
        type();
        clearText();
        textError();
        impossibleOrder();
        impossibleOrdersOfEachKind();
        impossibleOrderAnswersAndThrows();
        carryOut();
        carryOutThrows();
        undo();
        takeSnapshot();
        restoreSnapshot();
        for (int promise = 1; promise <= 14; promise++) {
            saidAllBelow("Promise " + promise + ":");
        }
        finish();
    }

    /** With 1 to 4 states recorded: the call records one more, of which at most four are kept, and is undone by one. */
    private static void isAction(PluralMint m, Call call) {
        for (int recorded = 1; recorded <= 4; recorded++) {
            m.takeSnapshot();
            while (m.recordedStates() > 0) {
                m.undo();
            }
            for (int i = 0; i < recorded; i++) {
                m.restoreSnapshot();
            }
            String before = picture(m);
            call.run();
            due("recorded after " + recorded, m.recordedStates(), Math.min(recorded + 1, 4));
            due("undo after " + recorded, m.undo(), Math.min(recorded, 3));
            same("undone after " + recorded, picture(m), before);
        }
    }

    // ---- promise 1

    private static void newObject() {
        says("Promise 1: A new object", "Creates a mint with die 0, an empty table and an empty book.");
        PluralMint m = new PluralMint();
        due("dies", m.dies(), 1);
        throwsDue("die 0 stays", STATE, () -> m.dropDie(0));
        throwsDue("no die 1", INDEX, () -> m.dropDie(1));
        due("irregulars", m.irregulars(), 0);
        throwsDue("an empty table", STATE, m::dropIrregular);
        due("nouns", m.nouns(), 0);
        throwsDue("no noun 0", INDEX, () -> m.lettersOf(0));
        due("heaps", m.heaps(), 0);
        due("coins by heaps", m.coinsByHeaps(), 0);
        due("coins by accounts", m.coinsByAccounts(), 0);
        due("stale coins", m.staleCoins(), 0);
        due("ambiguous nouns", m.ambiguousNouns(), 0);
        due("recorded", m.recordedStates(), 0);
        throwsDue("nothing to undo", STATE, m::undo);
        throwsDue("no snapshot", STATE, m::restoreSnapshot);
        due("text", m.clearText(), 0);
    }

    // ---- promise 2

    private static void strike() {
        String heading = "Promise 2: strike";
        says(heading, "Strikes coins for a noun.");
        PluralMint m = mint("a;b");
        m.strike(1, 2);
        due("its coins", m.coinsOf(1), 2);
        due("the other noun's", m.coinsOf(0), 0);
        due("heaps", m.heaps(), 1);
        says(heading, "This is an action.");
        PluralMint acting = mint("a");
        isAction(acting, () -> acting.strike(0, 1));
        says(heading, "`noun`: a noun");
        nounsAreBounded((n, noun) -> n.strike(noun, 1));
        says(heading, "`many`: 1 to 99");
        allowed("many", mint("a"), (n, many) -> n.strike(0, many), 1, 2, 98, 99);
        refused("many", ARGUMENT, mint("a"), (n, many) -> n.strike(0, many), OUT_OF_RANGE);
        says(heading, "Returns the number of coins of the noun afterwards.");
        PluralMint coins = mint("a;b");
        due("the fewest at once", coins.strike(0, 1), 1);
        due("the most at once", coins.strike(0, 99), 100);
        due("of another noun", coins.strike(1, 99), 99);
        carry(coins, "*>x");
        due("of two heaps", coins.strike(0, 1), 101);
    }

    private static void strikeThrows() {
        String heading = "Promise 2: strike";
        says(heading, "Throws `IndexOutOfBoundsException` if there is no such noun");
        PluralMint full = fullHeaps();
        refused("ahead of full heaps", INDEX, full, (n, noun) -> n.strike(noun, 1), 20, -1);
        refused("ahead of many", INDEX, full, (n, many) -> n.strike(20, many), OUT_OF_RANGE);
        refused("in an empty book", INDEX, new PluralMint(), (n, many) -> n.strike(0, many), OUT_OF_RANGE);
        says(heading, "Throws `IllegalArgumentException` if many is out of range");
        refused("ahead of full heaps", ARGUMENT, full, (n, many) -> n.strike(10, many), OUT_OF_RANGE);
        refused("where the heap is there", ARGUMENT, full, (n, many) -> n.strike(0, many), OUT_OF_RANGE);
        says(heading, "Throws `IllegalStateException` if there would be more than 30 heaps");
        refused("the 31st", STATE, full, (n, noun) -> n.strike(noun, 1), 10, 19);
        due("thirty heaps", full.heaps(), 30);
        allowed("a heap that is there", full, (n, noun) -> n.strike(noun, 99), 0, 9);
        full.undo();
        full.undo();
        full.undo();
        due("twenty-nine heaps", full.heaps(), 29);
        due("the 30th", full.strike(10, 99), 100);
        due("thirty heaps again", full.heaps(), 30);
        throwsDue("the 31st again", STATE, () -> full.strike(9, 1));
    }

    // ---- promise 3

    private static void melt() {
        String heading = "Promise 3: melt";
        says(heading, "Melts coins of a noun.");
        PluralMint m = mint("a;b");
        m.strike(0, 3);
        m.strike(1, 3);
        m.melt(1, 2);
        due("its coins", m.coinsOf(1), 1);
        due("the other noun's", m.coinsOf(0), 3);
        says(heading, "This is an action.");
        isAction(m, () -> m.melt(0, 3));
        says(heading, "`noun`: a noun");
        nounsAreBounded((n, noun) -> n.melt(noun, 1));
        says(heading, "`many`: 1 to 99");
        PluralMint rich = mint("a");
        rich.strike(0, 99);
        rich.strike(0, 99);
        rich.strike(0, 99);
        refused("many", ARGUMENT, rich, (n, many) -> n.melt(0, many), OUT_OF_RANGE);
        allowed("many", rich, (n, many) -> n.melt(0, many), 1, 2, 98, 99);
        due("left of 297", rich.coinsOf(0), 97);
        says(heading, "Returns the number of coins of the noun that are left.");
        PluralMint coins = mint("a;b");
        coins.strike(1, 9);
        coins.strike(0, 99);
        coins.strike(0, 1);
        due("one less", coins.melt(0, 1), 99);
        due("one left", coins.melt(0, 98), 1);
        due("none left", coins.melt(0, 1), 0);
    }

    private static void meltThrows() {
        String heading = "Promise 3: melt";
        PluralMint m = mint("a;b");
        m.strike(0, 2);
        m.strike(1, 90);
        carry(m, "*>x");
        m.strike(0, 3);
        says(heading, "Throws `IndexOutOfBoundsException` if there is no such noun");
        refused("ahead of many", INDEX, m, (n, many) -> n.melt(2, many), OUT_OF_RANGE);
        refused("ahead of too few coins", INDEX, m, (n, noun) -> n.melt(noun, 99), 2, -1);
        says(heading, "Throws `IllegalArgumentException` if many is out of range");
        refused("ahead of too few coins", ARGUMENT, m, (n, many) -> n.melt(0, many), OUT_OF_RANGE);
        refused("without coins", ARGUMENT, mint("a"), (n, many) -> n.melt(0, many), OUT_OF_RANGE);
        says(heading, "Throws `IllegalStateException` if it has fewer coins");
        refused("more than five", STATE, m, (n, many) -> n.melt(0, many), 6, 7, 99);
        due("five of two heaps", m.melt(0, 5), 0);
        refused("more than none", STATE, m, (n, many) -> n.melt(0, many), 1, 99);
        due("the other noun's", m.coinsOf(1), 90);
        refused("without coins", STATE, mint("a"), (n, many) -> n.melt(0, many), 1, 99);
    }

    // ---- promise 4

    private static void meltStale() {
        String heading = "Promise 4: meltStale";
        says(heading, "Melts all stale coins.");
        PluralMint m = fullHeaps();
        m.meltStale();
        due("fresh ones are left", m.coinsByHeaps(), 20);
        due("in ten heaps", m.heaps(), 10);
        due("none is stale", m.staleCoins(), 0);
        carry(m, "*>y");
        m.meltStale();
        due("no coin is left", m.coinsByHeaps(), 0);
        due("no heap is left", m.heaps(), 0);
        says(heading, "This is an action.");
        PluralMint acting = mint("a;b");
        acting.strike(0, 4);
        carry(acting, "*a>x");
        acting.strike(1, 5);
        isAction(acting, acting::meltStale);
        PluralMint none = new PluralMint();
        isAction(none, none::meltStale);
        says(heading, "Returns the number of coins that are melted.");
        due("of an empty mint", new PluralMint().meltStale(), 0);
        PluralMint full = fullHeaps();
        due("of thirty heaps, twenty are stale", full.meltStale(), 20);
        due("none is left", full.meltStale(), 0);
        carry(full, "*>y");
        due("ten heaps, all of them stale", full.meltStale(), 20);
    }

    // ---- promise 5

    private static void dropDie() {
        String heading = "Promise 5: dropDie";
        says(heading, "Drops a die.");
        PluralMint m = mint("a;b", "*a>x;*b>y");
        m.dropDie(1);
        same("its noun", plural(m, 0), "as");
        same("the other's", plural(m, 1), "y");
        m.dropDie(1);
        same("die 0 is left", plural(m, 1), "bs");
        says(heading, "This is an action.");
        PluralMint first = mint("b;yb", "*b>y;*!b>z");
        isAction(first, () -> first.dropDie(1));
        PluralMint last = mint("b;yb", "*b>y;*!b>z");
        isAction(last, () -> last.dropDie(2));
        says(heading, "`die`: a die");
        PluralMint full = fullDies();
        refused("twelve dies", INDEX, full, (n, die) -> n.dropDie(die), 12, -1, LEAST, GREATEST);
        allowed("twelve dies", full, (n, die) -> n.dropDie(die), 11, 1);
        allowed("ten dies", full, (n, die) -> n.dropDie(die), 9);
        refused("nine dies", INDEX, full, (n, die) -> n.dropDie(die), 9, 11);
        says(heading, "Returns the number of dies that are left.");
        PluralMint falling = fullDies();
        for (int left = 11; left >= 1; left--) {
            due("left", falling.dropDie(left), left);
        }
        PluralMint fromTheFirst = fullDies();
        for (int left = 11; left >= 1; left--) {
            due("left of the first ones", fromTheFirst.dropDie(1), left);
        }
    }

    private static void dropDieThrows() {
        String heading = "Promise 5: dropDie";
        says(heading, "Throws `IndexOutOfBoundsException` if there is no such die");
        refused("die 0 alone", INDEX, new PluralMint(), (n, die) -> n.dropDie(die), 1, -1, LEAST, GREATEST);
        PluralMint dropped = mint("*>x");
        dropped.dropDie(1);
        refused("a die that is dropped", INDEX, dropped, (n, die) -> n.dropDie(die), 1);
        says(heading, "Throws `IllegalStateException` if it is die 0");
        refused("die 0 alone", STATE, new PluralMint(), (n, die) -> n.dropDie(die), 0);
        refused("die 0 of two", STATE, mint("*>s"), (n, die) -> n.dropDie(die), 0);
        refused("die 0 of twelve", STATE, fullDies(), (n, die) -> n.dropDie(die), 0);
    }

    // ---- promise 6

    private static void dropIrregular() {
        String heading = "Promise 6: dropIrregular";
        says(heading, "Takes the irregular word that came last out of the table.");
        PluralMint m = mint("a;b;c", "b=x;a=y;c=z;b=w");
        m.dropIrregular();
        irregularsDue(m, true, true, false);
        m.dropIrregular();
        irregularsDue(m, false, true, false);
        same("the one that is left", plural(m, 1), "w");
        carry(m, "c=v");
        m.dropIrregular();
        irregularsDue(m, false, true, false);
        m.dropIrregular();
        irregularsDue(m, false, false, false);
        says(heading, "This is an action.");
        PluralMint acting = mint("a;b", "a=x;b=" + TWELVE);
        isAction(acting, acting::dropIrregular);
        says(heading, "Returns the number of irregular words that are left.");
        PluralMint full = fullTable();
        for (int left = 9; left >= 0; left--) {
            due("left", full.dropIrregular(), left);
        }
        says(heading, "Throws `IllegalStateException` if there is none");
        throwsDue("after ten", STATE, full::dropIrregular);
        throwsDue("in a new mint", STATE, new PluralMint()::dropIrregular);
        carry(full, "a=x");
        due("one again", full.dropIrregular(), 0);
        throwsDue("none again", STATE, full::dropIrregular);
    }

    private static void irregularsDue(PluralMint m, boolean... due) {
        for (int noun = 0; noun < due.length; noun++) {
            due("noun " + noun + " is irregular", m.isIrregular(noun) ? 1 : 0, due[noun] ? 1 : 0);
        }
    }

    // ---- promises 7 and 8

    private static void type() {
        String heading = "Promise 7: type";
        says(heading, "Appends a character to the order text.");
        PluralMint m = textMint("ab");
        m.type('c');
        m.carryOut();
        same("at the end", noun(m, 0), "abc");
        says(heading, "`character`: any character");
        for (int sign = 0; sign <= Character.MAX_VALUE; sign += 50) {
            PluralMint any = new PluralMint();
            for (int i = 0; i < 50 && sign + i <= Character.MAX_VALUE; i++) {
                due("type", any.type((char) (sign + i)), i + 1);
            }
        }
        due("the greatest", new PluralMint().type(Character.MAX_VALUE), 1);
        says(heading, "Returns the length of the text afterwards.");
        PluralMint growing = new PluralMint();
        for (int length = 1; length <= 60; length++) {
            due("length", growing.type(' '), length);
        }
        growing.clearText();
        due("after clearText", growing.type(' '), 1);
        says(heading, "Throws `IllegalStateException` if the text has 60 characters");
        PluralMint full = textMint("a".repeat(59));
        due("the 60th", full.type('a'), 60);
        for (char sign : new char[] {'a', ';', 'A', 0, Character.MAX_VALUE}) {
            throwsDue("the 61st", STATE, () -> full.type(sign));
        }
        due("sixty are there", full.clearText(), 60);
        noThrowDue("after clearText", () -> full.type('a'));
    }

    private static void clearText() {
        String heading = "Promise 8: clearText";
        says(heading, "Empties the order text.");
        PluralMint m = textMint("a");
        m.clearText();
        due("it ends too early", m.textError(), 0);
        m.type('b');
        m.carryOut();
        same("nothing of the old text is left", noun(m, 0), "b");
        says(heading, "Returns the length that it had.");
        due("none", new PluralMint().clearText(), 0);
        due("one", textMint("A").clearText(), 1);
        due("fifty-nine", textMint(";".repeat(59)).clearText(), 59);
        PluralMint full = textMint("*".repeat(60));
        due("sixty", full.clearText(), 60);
        due("none again", full.clearText(), 0);
    }

    // ---- promise 9

    private static void textError() {
        String heading = "Promise 9: textError";
        says(heading, "Finds the first error of the order text.");
        errorDue("A;A", 0);
        errorDue("a;A;A", 2);
        errorDue("a=;b=;", 2);
        PluralMint m = textMint("a;");
        due("at first", m.textError(), 2);
        m.type(';');
        due("with one sign more", m.textError(), 2);
        m.type('A');
        due("it stays the first", m.textError(), 2);
        says(heading, "Returns its index;");
        errorDue("", 0);
        errorDue("a" + ";a".repeat(29) + ";", 60);
        errorDue("a" + ";a".repeat(29) + "A", 59);
        errorDue("A" + ";a".repeat(29), 0);
        says(heading, "NONE if the text is valid.");
        errorDue("a", NONE);
        errorDue("a;b=c;*>d;*!>e;*?f>g", NONE);
        errorDue("aa" + ";a".repeat(29), NONE);
        PluralMint full = fullBook();
        write(full, "a;a");
        due("a text that is impossible is valid", full.textError(), NONE);
    }

    // ---- promise 10

    private static void impossibleOrder() {
        String heading = "Promise 10: impossibleOrder";
        says(heading, "Finds the first order of the text that could not be carried out");
        PluralMint m = mint("a;b");
        impossibleDue(m, "a;b", 0);
        impossibleDue(m, "c;b;a", 1);
        impossibleDue(m, "c;d;e=f;*>g;b;a", 4);
        says(heading, "if the orders were carried out now, one after the other:");
        impossibleDue(m, "c;c", 1);
        impossibleDue(m, "c;d=c;*>x;d;c;c", 4);
        due("none is carried out: nouns", m.nouns(), 2);
        due("none is carried out: irregulars", m.irregulars(), 0);
        due("none is carried out: dies", m.dies(), 1);
        due("nothing is recorded", m.recordedStates(), 1);
        due("the text stays", m.clearText(), 15);
        m.undo();
        impossibleDue(m, "a;b", NONE);
    }

    private static void impossibleOrdersOfEachKind() {
        String heading = "Promise 10: impossibleOrder";
        says(heading, "a noun that is in the book,");
        PluralMint book = mint("a;" + TWELVE);
        impossibleDue(book, "a", 0);
        impossibleDue(book, TWELVE, 0);
        impossibleDue(book, "b;aa;abcdefghijk;abcdefghijkm", NONE);
        says(heading, "or the 21st one,");
        PluralMint nouns = mint("a;b;c;d;e;f;g;h;i;j;k;l;m;n;o;p;q;r");
        impossibleDue(nouns, "s;t", NONE);
        impossibleDue(nouns, "s;t;u", 2);
        impossibleDue(nouns, "s;a=b;t;*>x;u", 4);
        impossibleDue(nouns, "s;r;u", 1);
        impossibleDue(fullBook(), "a=b;*>x;u", 2);
        says(heading, "the 11th irregular word,");
        PluralMint table = mint("a=x;b=x;c=x;d=x;e=x;f=x;g=x;h=x;i=x");
        impossibleDue(table, "j=x", NONE);
        impossibleDue(table, "j=x;k=x", 1);
        impossibleDue(table, "j=x;a=y;j=y;k=x", 3);
        impossibleDue(fullTable(), "a=y;k;*>x;k=x", 3);
        says(heading, "or the 13th die.");
        PluralMint dies = mint("*>a;*>b;*>c;*>d;*>e;*>f;*>g;*>h;*>i;*>j");
        impossibleDue(dies, "*>k", NONE);
        impossibleDue(dies, "*>k;*>l", 1);
        impossibleDue(dies, "*>k;a;a=b;*>k", 3);
        impossibleDue(fullDies(), "m;m=n;*a>z", 2);
    }

    private static void impossibleOrderAnswersAndThrows() {
        String heading = "Promise 10: impossibleOrder";
        says(heading, "Returns the number of the order, from 0;");
        impossibleDue(mint("b"), "b", 0);
        impossibleDue(mint("b"), "a;b", 1);
        impossibleDue(mint("b"), "a=a;a=a;a=a;a=a;a=a;a=a;a=a;a=a;a=a;a=a;a=a;a=a;a=a;a=a;b", 14);
        impossibleDue(fullBook(), "u" + ";a".repeat(29), 0);
        impossibleDue(new PluralMint(), "a;b;c;d;e;f;g;h;i;j;k;l;m;n;o;p;q;r;s;t;u;v;w;x;y;z", 20);
        says(heading, "NONE if all of them could be carried out.");
        impossibleDue(new PluralMint(), "a", NONE);
        impossibleDue(new PluralMint(), "a;b;c;d;e;f;g;h;i;j;k;l;m;n;o;p;q;r;s;t", NONE);
        says(heading, "Throws `IllegalStateException` if the text is not valid");
        for (String text : INVALID) {
            throwsDue("'" + text + "'", STATE, () -> textMint(text).impossibleOrder());
        }
        PluralMint both = mint("a");
        write(both, "a;A");
        throwsDue("not valid after an order that is impossible", STATE, both::impossibleOrder);
    }

    // ---- promise 11

    private static void carryOut() {
        String heading = "Promise 11: carryOut";
        says(heading, "Carries out all orders of the text, one after the other.");
        PluralMint m = mint("b;a=x;*>y;a=z;a");
        same("the first", noun(m, 0), "b");
        same("the last", noun(m, 1), "a");
        same("the later one of two plurals", plural(m, 1), "z");
        same("the die", plural(m, 0), "by");
        due("the table", m.irregulars(), 1);
        says(heading, "The text stays as it is.");
        PluralMint twice = mint("*>x;a=b");
        due("carried out again", twice.carryOut(), 2);
        due("two dies more", twice.dies(), 3);
        due("its length", twice.clearText(), 7);
        says(heading, "This is one action.");
        PluralMint acting = mint("c");
        write(acting, "a;b;c=d;*>x");
        isAction(acting, acting::carryOut);
        says(heading, "Returns the number of orders.");
        due("one", textMint("a").carryOut(), 1);
        due("two", textMint("a=b;a=b").carryOut(), 2);
        due("twenty", textMint("a;b;c;d;e;f;g;h;i;j;k;l;m;n;o;p;q;r;s;t").carryOut(), 20);
    }

    private static void carryOutThrows() {
        String heading = "Promise 11: carryOut";
        says(heading, "Throws `IllegalStateException` if the text is not valid,");
        for (String text : INVALID) {
            PluralMint m = textMint(text);
            throwsDue("'" + text + "'", STATE, m::carryOut);
            due("'" + text + "' records nothing", m.recordedStates(), 0);
            due("'" + text + "' brings no noun", m.nouns(), 0);
        }
        says(heading, "or an order cannot be carried out");
        impossible(mint("a"), "a", "b");
        impossible(mint("a"), "b;c=d;*>x;a", "b;c=d;*>x;e");
        impossible(fullBook(), "*>x;u", "*>x;a=b");
        impossible(fullTable(), "a=y;k=x", "a=y;j=x");
        impossible(fullDies(), "l;*l>x", "l;l=x");
        impossible(mint("a;b;c;d;e;f;g;h;i;j;k;l;m;n;o;p;q;r"), "s;t;u", "s;t");
    }

    /** The one text is impossible, and changes nothing; the other one is possible. */
    private static void impossible(PluralMint m, String text, String possible) {
        write(m, text);
        String before = picture(m);
        throwsDue("carryOut of '" + text + "'", STATE, m::carryOut);
        same("after '" + text + "'", picture(m), before);
        due("'" + text + "' records nothing", m.recordedStates(), 1);
        write(m, possible);
        noThrowDue("carryOut of '" + possible + "'", m::carryOut);
    }

    // ---- promise 12

    private static void undo() {
        String heading = "Promise 12: undo";
        says(heading, "Returns to the state that was recorded last, and discards it from the recorded states.");
        PluralMint m = mint("a", "b", "c");
        m.undo();
        due("the last", m.nouns(), 2);
        m.undo();
        due("the one ahead of it", m.nouns(), 1);
        carry(m, "d");
        m.undo();
        due("one that came after an undo", m.nouns(), 1);
        m.undo();
        due("the first", m.nouns(), 0);
        says(heading, "Returns the number of recorded states that are left.");
        PluralMint five = mint("a", "b", "c", "d", "e");
        for (int left = 3; left >= 0; left--) {
            due("left", five.undo(), left);
        }
        due("left of one", recordedOnce().undo(), 0);
        says(heading, "Throws `IllegalStateException` if no state is recorded");
        throwsDue("after four", STATE, five::undo);
        throwsDue("in a new mint", STATE, new PluralMint()::undo);
        PluralMint only = textMint("a");
        only.takeSnapshot();
        throwsDue("after a snapshot", STATE, only::undo);
        only.carryOut();
        noThrowDue("after one action", only::undo);
        throwsDue("after its undo", STATE, only::undo);
    }

    private static PluralMint recordedOnce() {
        PluralMint m = new PluralMint();
        m.meltStale();
        return m;
    }

    // ---- promises 13 and 14

    private static void takeSnapshot() {
        String heading = "Promise 13: takeSnapshot";
        says(heading, "Takes a snapshot of the state, which replaces the previous snapshot.");
        PluralMint m = mint("a");
        m.takeSnapshot();
        carry(m, "b", "*>x", "a=y");
        m.strike(0, 2);
        String before = picture(m);
        m.takeSnapshot();
        carry(m, "c");
        m.restoreSnapshot();
        same("the later one", picture(m), before);
        due("no action", recordedAfterSnapshot(), 0);
        says(heading, "Returns the number of nouns.");
        due("none", new PluralMint().takeSnapshot(), 0);
        due("one", mint("a").takeSnapshot(), 1);
        due("twenty", fullBook().takeSnapshot(), 20);
    }

    private static int recordedAfterSnapshot() {
        PluralMint m = new PluralMint();
        m.takeSnapshot();
        return m.recordedStates();
    }

    private static void restoreSnapshot() {
        String heading = "Promise 14: restoreSnapshot";
        says(heading, "Returns to the state of the snapshot, which is kept.");
        PluralMint m = mint("a;by", "*!y>ies;a=x");
        m.strike(0, 2);
        m.takeSnapshot();
        String before = picture(m);
        for (int times = 1; times <= 3; times++) {
            carry(m, "c", "*>z", "by=w");
            m.strike(1, 3);
            m.dropDie(1);
            m.restoreSnapshot();
            same("restored " + times, picture(m), before);
        }
        says(heading, "This is an action.");
        isAction(m, m::restoreSnapshot);
        carry(m, "c");
        m.restoreSnapshot();
        m.undo();
        due("undone", m.nouns(), 3);
        says(heading, "Returns the number of nouns afterwards.");
        PluralMint full = new PluralMint();
        full.takeSnapshot();
        carry(full, "a;b;c;d;e;f;g;h;i;j;k;l;m;n;o;p;q;r;s;t");
        due("none", full.restoreSnapshot(), 0);
        full.undo();
        full.takeSnapshot();
        full.undo();
        due("twenty", full.restoreSnapshot(), 20);
        says(heading, "Throws `IllegalStateException` if there is no snapshot");
        throwsDue("in a new mint", STATE, new PluralMint()::restoreSnapshot);
        PluralMint never = mint("a");
        throwsDue("after an action", STATE, never::restoreSnapshot);
        never.undo();
        throwsDue("after an undo", STATE, never::restoreSnapshot);
        never.takeSnapshot();
        noThrowDue("after a snapshot", never::restoreSnapshot);
    }
}
