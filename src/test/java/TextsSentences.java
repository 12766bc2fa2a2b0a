import java.util.function.Consumer;
import java.util.function.Supplier;

/** "TEXTS OF COMMANDS", "UNDO" and "EXCEPTIONS". */
final class TextsSentences {
    private TextsSentences() {
    }

    static void all() {
        texts();
        words();
        faults();
        runs();
        undo();
        exceptions();
    }

    private static void texts() {
        Sentence.section("TEXTS OF COMMANDS");
        Sentence.holds("The command text has at most 150 bytes.", TextsSentences::atMost150Bytes);
        Sentence.holds("It is a sequence of commands", TextsSentences::commandsOneAfterAnother);
        Sentence.holds("(perhaps none: a text that is empty, or has spaces alone, has no fault),", TextsSentences::perhapsNone);
        Sentence.holds("each of which is a word of letters a to z,", TextsSentences::lettersAreAToZ);
        Sentence.holds("followed by its numbers, each of one to three digits", TextsSentences::oneToThreeDigits);
        Sentence.holds("(zeros in front are allowed;", TextsSentences::zerosInFront);
        Sentence.holds("a fourth digit cannot stand)", TextsSentences::noFourthDigit);
        Sentence.holds("and with at least one space (byte 32) in front,", TextsSentences::spacesInFrontOfNumbers);
        Sentence.holds("and a semicolon.", TextsSentences::endsWithASemicolon);
        Sentence.holds("Spaces may also stand in front of a command, in front of a semicolon, and at the end.",
            TextsSentences::spacesElsewhere);
    }

    private static void words() {
        Sentence.holds("The words are: kind l g b r k (addKind(l, g, b, r, k)),", TextsSentences::wordKind);
        Sentence.holds("house (addHouse()),", TextsSentences::wordHouse);
        Sentence.holds("dough h k n (addDough(h, k, n)),", TextsSentences::wordDough);
        Sentence.holds("bring h n (bring(h, n)),", TextsSentences::wordBring);
        Sentence.holds("stoke h n (stoke(h, n)),", TextsSentences::wordStoke);
        Sentence.holds("pass n (pass(n)),", TextsSentences::wordPass);
        Sentence.holds("swap a b (swap(a, b)),", TextsSentences::wordSwap);
        Sentence.holds("settle (settle()).", TextsSentences::wordSettle);
    }

    private static void faults() {
        Sentence.holds("The fault of a command text is the index of the first byte that cannot stand at its place,",
            TextsSentences::faultIsTheFirstByteThatCannotStand);
        Sentence.holds("or the length of the text if it ends too soon.", TextsSentences::faultIsTheLengthIfItEndsTooSoon);
        Sentence.holds("A word that is not one of these is at fault with its first byte,",
            TextsSentences::faultOfAWordIsItsFirstByte);
        Sentence.holds("found when the word is complete: when a byte that is no letter, or the end of the text, follows it.",
            TextsSentences::wordsAreJudgedWhenComplete);
        Sentence.holds("(That a number is out of its range is no fault.)", TextsSentences::numbersOutOfRangeAreNoFault);
    }

    private static void runs() {
        Sentence.holds("To run a command text means: if it has a fault, nothing is done;", TextsSentences::nothingIsDoneWithAFault);
        Sentence.holds("otherwise the commands are carried out in their order,", TextsSentences::carriedOutInTheirOrder);
        Sentence.holds("until one of them would throw an exception, which is not thrown;", TextsSentences::stopsWhereOneWouldThrow);
        Sentence.holds("those before it stay done, and they alone count.", TextsSentences::thoseBeforeItStayDone);
        Sentence.holds("A run saves one state, the one from before it; its commands save none.",
            TextsSentences::aRunSavesOneState);
    }

    private static void undo() {
        Sentence.section("UNDO");
        Sentence.holds("Every method that is marked \"undoable\" saves the whole state but the command text on an undo stack "
            + "when it ends normally,", TextsSentences::thoseThatAreMarkedSave);
        Sentence.holds("also if it changes nothing.", TextsSentences::savesAlsoWhatIsNotChanged);
        Sentence.holds("The saved state is the one from before the call.", TextsSentences::savesTheStateFromBefore);
        Sentence.holds("The stack keeps the latest 4 saved states and drops older ones.", TextsSentences::keepsTheLatest4);
    }

    private static void exceptions() {
        Sentence.section("EXCEPTIONS");
        Sentence.holds("A call that throws an exception changes nothing.", TextsSentences::whatThrowsChangesNothing);
        Sentence.holds("If several exceptions of a method apply, the one that is listed first is thrown.",
            TextsSentences::theFirstListedIsThrown);
        Sentence.holds("NONE is returned only if no exception applies.", TextsSentences::exceptionsComeBeforeNone);
        Sentence.holds("The constants: `NONE = -1`: Returned where there is no such value.", TextsSentences::noneWhereThereIsNone);
        Sentence.tellsNoCase("Ahead of the calls `addKind`, `addHouse`, `addDough`, `clearDoughs`, `swap` the interface says: "
            + "---- kinds, households, doughs.");
        Sentence.tellsNoCase("Ahead of the calls `bring`, `stoke`, `settle`, `pass` the interface says: ---- logs and ticks.");
        Sentence.tellsNoCase("Ahead of the calls `kind`, `house`, `dough`, `place`, `whole`, `line` the interface says: "
            + "---- values.");
        Sentence.tellsNoCase("Ahead of the calls `reason`, `loadedIn`, `neededLogs`, `heatIn`, `spoiledIn`, `owes` the interface "
            + "says: ---- what if, which changes nothing.");
        Sentence.tellsNoCase("Ahead of the calls `type`, `clearCommands`, `runCommands`, `undo`, `digest` the interface says: "
            + "---- command text, undo and checksum.");
    }

    /** A run of the text on a new object tells this fault. */
    private static void fault(int due, String text) {
        Check.same("\"" + text + "\"", -10 - due, Bakery.run(new BakeTurns(), text));
    }

    /** A run of the text on a new object carries out so many commands. */
    private static void counts(int due, String text) {
        Check.same("\"" + text + "\"", due, Bakery.run(new BakeTurns(), text));
    }

    // ---- texts

    private static void atMost150Bytes() {
        BakeTurns x = new BakeTurns();
        Check.same("150 bytes", 8, Bakery.run(x, "house;".repeat(25)));
        Check.same("length", 150, x.whole(14));
        Check.badState("a 151st", x, () -> x.type(';'));
        Check.same("length", 150, x.whole(14));
        BakeTurns y = new BakeTurns();
        Check.same("the 150th byte is the semicolon", 1, Bakery.run(y, " ".repeat(144) + "house;"));
        Check.same("the 150th byte is at fault", -10 - 149, Bakery.run(y, "house;" + " ".repeat(143) + "1"));
        Check.same("150 bytes that end too soon", -10 - 150, Bakery.run(y, " ".repeat(145) + "house"));
        Check.same("150 bytes that end too soon", -10 - 150, Bakery.run(y, "settle" + " ".repeat(144)));
    }

    private static void commandsOneAfterAnother() {
        counts(1, "house;");
        counts(2, "house;house;");
        counts(4, "house; settle;house;settle;");
        BakeTurns x = new BakeTurns();
        x.addHouse();
        Check.same("as many as go into a text", 21, Bakery.run(x, "settle;".repeat(21)));
        fault(6, "house;;");
        fault(7, "house; ; house;");
    }

    private static void perhapsNone() {
        counts(0, "");
        counts(0, " ");
        counts(0, " ".repeat(75));
        counts(0, " ".repeat(150));
        BakeTurns x = new BakeTurns();
        Check.same("nothing was ever typed", 0, x.runCommands());
        fault(0, ";");
        fault(1, " ;");
        fault(0, "\0");
        fault(1, " \t");
    }

    private static void lettersAreAToZ() {
        fault(0, "HOUSE;");
        fault(0, "House;");
        fault(5, "houseE;");
        fault(5, "house`;");
        fault(5, "house{;");
        fault(5, "house_;");
        fault(5, "house@;");
        fault(5, "house[;");
        fault(0, "`house;");
        fault(0, "{house;");
        fault(0, "1house;");
        fault(0, "housea;");
        fault(0, "housez;");
        fault(0, "ahouse;");
        fault(0, "zhouse;");
    }

    private static void oneToThreeDigits() {
        Bakery.doughIs("one to three digits", ranAll("kind 50 400 1 9 40;house;dough 0 0 4;"), 0, 0, 0, 4);
        BakeTurns x = ranAll("pass 1;pass 12;pass 100;");
        Check.same("ticks", 113, x.whole(4));
        fault(5, "pass ;");
        fault(5, "pass a;");
        fault(5, "pass /;");
        fault(5, "pass :;");
        fault(5, "pass -1;");
        fault(5, "pass +1;");
        fault(6, "pass 1/;");
        fault(6, "pass 1:;");
        fault(6, "pass 1.0;");
        fault(7, "bring 0;");
        fault(8, "bring 0 ;");
    }

    /** A new object that has run a text of which every command can be carried out. */
    private static BakeTurns ranAll(String text) {
        BakeTurns x = new BakeTurns();
        Check.same("\"" + text + "\"", text.split(";").length, Bakery.run(x, text));
        return x;
    }

    private static void zerosInFront() {
        Check.same("01", 1, ranAll("pass 01;").whole(4));
        Check.same("001", 1, ranAll("pass 001;").whole(4));
        Check.same("010 is ten", 10, ranAll("pass 010;").whole(4));
        Check.same("099", 99, ranAll("pass 099;").whole(4));
        Check.same("000 is 0, as is 00", 1, ranAll("house;bring 000 1;bring 00 1;").whole(1));
        counts(0, "pass 000;");
    }

    private static void noFourthDigit() {
        fault(8, "pass 1000;");
        fault(8, "pass 0001;");
        fault(8, "pass 0000;");
        fault(8, "pass 9999;");
        fault(8, "pass 12345;");
        fault(9, "bring 0001 1;");
        fault(11, "bring 0 0001;");
        fault(8, "pass 1001");
        counts(0, "pass 999;");
    }

    private static void spacesInFrontOfNumbers() {
        Check.same("one", 7, ranAll("pass 7;").whole(4));
        Check.same("many", 7, ranAll("pass      7;").whole(4));
        Check.same("many, in front of each", 99, ranAll("house;bring   0     99;").house(0, 0));
        fault(4, "pass7;");
        fault(4, "pass\t7;");
        fault(5, "pass \t7;");
        fault(6, "pass  \n7;");
        fault(4, "pass\n7;");
        fault(4, "pass,7;");
        fault(4, "pass!7;");
        fault(4, "pass\u001f7;");
        fault(7, "bring 0,1;");
        fault(7, "bring 0-1;");
        fault(4, "pass\0007;");
    }

    private static void endsWithASemicolon() {
        fault(5, "house");
        fault(5, "house:");
        fault(5, "house<");
        fault(5, "house,house;");
        fault(6, "house house;");
        fault(6, "house 1;");
        fault(8, "settle  1;");
        fault(7, "pass 1 2;");
        fault(6, "pass 1");
        fault(6, "pass 1\n");
        fault(10, "bring 0 1 2;");
    }

    private static void spacesElsewhere() {
        counts(1, " house;");
        counts(1, "     house;");
        counts(1, "house ;");
        counts(1, "house     ;");
        counts(1, "house; ");
        counts(1, "house;     ");
        counts(2, "  house  ;  house  ;  ");
        counts(1, "  pass   5   ;  ");
        fault(0, "ho use;");
        fault(0, "\thouse;");
        fault(5, "house\t;");
        fault(6, "house;\t");
        fault(7, "pass 1 0;");
    }

    // ---- words

    /** Doughs in the oven, waiting and done; use, logs and ticks are not 0. */
    private static BakeTurns busy() {
        BakeTurns x = Bakery.with(300, new int[] {200, 300, 3, 0, 40}, new int[] {50, 60, 1, 0, 40});
        Bakery.doughs(x, 3, 0, 0, 2);
        Bakery.doughs(x, 3, 1, 1, 1);
        x.pass(3);
        x.stoke(1, 2);
        return x;
    }

    /** A text of this one command does all that the call does, and no more. */
    private static void doesLikeTheCall(String command, Consumer<BakeTurns> call) {
        BakeTurns x = busy();
        BakeTurns y = busy();
        Check.same("\"" + command + "\"", 1, Bakery.run(x, command));
        call.accept(y);
        Check.isTrue("\"" + command + "\" does something", Bakery.hashOf(y, 0) != Bakery.hashOf(busy(), 0));
        x.clearCommands();
        Check.same("\"" + command + "\" does as the call", Bakery.hashOf(y, 0), Bakery.hashOf(x, 0));
    }

    /** The word is a word only with each of its letters. */
    private static void wordIs(String word) {
        for (int i = 0; i < word.length(); i++) {
            fault(0, word.substring(0, i) + (word.charAt(i) == 'x' ? 'y' : 'x') + word.substring(i + 1));
            fault(0, word.substring(0, i) + (char) (word.charAt(i) + 1) + word.substring(i + 1) + ";");
            fault(0, word.substring(0, i) + word.substring(i + 1) + ";");
            fault(0, word.substring(0, i) + word.charAt(i) + word.substring(i) + ";");
        }
        fault(word.length(), word);
    }

    private static void wordKind() {
        doesLikeTheCall("kind 101 202 3 4 5;", x -> x.addKind(101, 202, 3, 4, 5));
        wordIs("kind");
        fault(16, "kind 101 202 3 4;");
        fault(19, "kind 101 202 3 4 5 6;");
        fault(4, "kind;");
    }

    private static void wordHouse() {
        doesLikeTheCall("house;", BakeTurns::addHouse);
        wordIs("house");
        fault(6, "house 0;");
    }

    private static void wordDough() {
        doesLikeTheCall("dough 1 0 3;", x -> x.addDough(1, 0, 3));
        doesLikeTheCall("dough 0 1 2;", x -> x.addDough(0, 1, 2));
        wordIs("dough");
        fault(9, "dough 1 2;");
        fault(12, "dough 1 2 3 4;");
        fault(5, "dough;");
    }

    private static void wordBring() {
        doesLikeTheCall("bring 1 12;", x -> x.bring(1, 12));
        wordIs("bring");
        fault(7, "bring 1;");
        fault(10, "bring 1 2 3;");
        fault(5, "bring;");
    }

    private static void wordStoke() {
        doesLikeTheCall("stoke 1 2;", x -> x.stoke(1, 2));
        wordIs("stoke");
        fault(7, "stoke 1;");
        fault(10, "stoke 1 2 3;");
        fault(5, "stoke;");
    }

    private static void wordPass() {
        doesLikeTheCall("pass 42;", x -> x.pass(42));
        doesLikeTheCall("pass 3;", x -> x.pass(3));
        wordIs("pass");
        fault(4, "pass;");
        fault(8, "pass 42 1;");
    }

    private static void wordSwap() {
        doesLikeTheCall("swap 3 5;", x -> x.swap(3, 5));
        doesLikeTheCall("swap 4 3;", x -> x.swap(4, 3));
        wordIs("swap");
        fault(6, "swap 0;");
        fault(9, "swap 0 1 2;");
        fault(4, "swap;");
    }

    private static void wordSettle() {
        doesLikeTheCall("settle;", BakeTurns::settle);
        wordIs("settle");
        fault(7, "settle 0;");
    }

    // ---- faults

    private static void faultIsTheFirstByteThatCannotStand() {
        fault(0, "?");
        fault(0, "?house;");
        fault(5, "house?");
        fault(6, "house;?");
        fault(8, "house;  ?");
        fault(4, "pass?");
        fault(5, "pass ?");
        fault(6, "pass 1?");
        fault(7, "pass 12?");
        fault(8, "pass 123?");
        fault(9, "pass 123 ?");
        fault(9, "pass 123;?");
        fault(6, "pass 1?;house?;");
        fault(4, "pass;house 1;x");
        fault(5, "pass house;x");
        fault(7, "bring 1house;x");
        fault(7, "kind 12;x");
        fault(149, "house;".repeat(24) + "house?");
        fault(20, "house;pass 5;house; ;");
    }

    private static void faultIsTheLengthIfItEndsTooSoon() {
        fault(5, "house");
        fault(7, "house  ");
        fault(4, "pass");
        fault(5, "pass ");
        fault(7, "pass   ");
        fault(6, "pass 1");
        fault(8, "pass 100");
        fault(8, "pass 1  ");
        fault(7, "bring 0");
        fault(8, "bring 0 ");
        fault(9, "bring 0 1");
        fault(14, "kind 1 2 3 4 5");
        fault(11, "house;house");
        fault(150, " ".repeat(142) + "pass 123");
    }

    private static void faultOfAWordIsItsFirstByte() {
        fault(0, "bake;");
        fault(3, "   bake;");
        fault(6, "house;bake;");
        fault(8, "house;  bake 1;");
        fault(0, "housing;");
        fault(0, "housee;");
        fault(0, "hhouse;");
        fault(0, "hous;");
        fault(0, "houses;");
        fault(0, "passs 1;");
        fault(0, "settled;");
        fault(0, "kinds 50 50 1 0 1;");
        fault(0, "clear;");
        fault(0, "undo;");
        fault(0, "abcdefghijklmnopqrstuvwxyz;");
        fault(0, "x".repeat(150));
    }

    private static void wordsAreJudgedWhenComplete() {
        fault(0, "hous");
        fault(0, "h");
        fault(6, "house;hous");
        fault(0, "hous ");
        fault(0, "hous;");
        fault(0, "hous1");
        fault(0, "hous?e;");
        fault(0, "hoXuse;");
        fault(0, "pas s 1;");
        fault(0, "pa1ss 1;");
        fault(5, "house1;");
        fault(5, "houseX");
        fault(0, "housex?");
        fault(149, " ".repeat(149) + "h");
        fault(145, " ".repeat(145) + "hause");
    }

    private static void numbersOutOfRangeAreNoFault() {
        String[] texts = {"pass 0;", "pass 101;", "pass 999;", "kind 0 0 0 0 0;", "kind 999 999 999 999 999;", "dough 999 0 9;",
            "bring 999 999;", "stoke 7 17;", "swap 99 99;"};
        for (String text : texts) {
            counts(0, text);
            counts(1, "house;" + text + "house;");
        }
    }

    // ---- runs

    private static void nothingIsDoneWithAFault() {
        String[] texts = {"house;hous;", "house;house", "house;pass 1;;", "kind 50 60 1 0 1;x"};
        for (String text : texts) {
            BakeTurns x = new BakeTurns();
            Bakery.text(x, text);
            long before = x.digest();
            Check.isTrue("\"" + text + "\" has a fault", x.runCommands() <= -10);
            Check.same("\"" + text + "\": all as before", before, x.digest());
            Check.badState("\"" + text + "\": nothing is saved", x, x::undo);
        }
    }

    private static void carriedOutInTheirOrder() {
        BakeTurns x = ranAll("house;bring 0 5;stoke 0 9;pass 1;stoke 0 1;pass 2;kind 60 70 1 0 2;dough 0 0 1;pass 3;dough 0 0 2;");
        Check.same("heat", 225 - 2 + 25 - 4 - 6, x.whole(3));
        Bakery.doughsAre("the first is spoiled, the second came later", x, 4, 3, 0);
        Check.same("balance", -5, x.house(0, 0));
        counts(0, "bring 0 1;house;");
        counts(2, "house;bring 0 1;");
        Bakery.lineIs("swapped before the third came",
            ranAll("house;kind 60 70 1 0 2;dough 0 0 1;dough 0 0 1;swap 0 1;dough 0 0 1;"), 1, 0, 2);
    }

    private static void stopsWhereOneWouldThrow() {
        String[] bad = {"kind 49 300 3 0 40;", "kind 200 199 3 0 40;", "kind 200 401 3 0 40;", "kind 200 300 0 0 40;",
            "kind 200 300 21 0 40;", "kind 200 300 3 31 40;", "kind 200 300 3 0 0;", "kind 200 300 3 0 41;", "dough 1 0 1;",
            "dough 0 1 1;", "dough 0 0 0;", "dough 0 0 5;", "bring 1 1;", "bring 0 0;", "bring 0 100;", "stoke 1 1;",
            "stoke 0 0;", "stoke 0 17;", "stoke 0 16;", "pass 0;", "pass 101;", "swap 0 2;", "swap 2 0;", "swap 0 0;",
            "swap 0 1;", "swap 1 0;"};
        for (String command : bad) {
            BakeTurns x = new BakeTurns();
            x.addKind(50, 400, 9, 0, 40);
            x.addHouse();
            x.addDough(0, 0, 1);
            x.addDough(0, 0, 1);
            x.stoke(0, 5);
            Check.same(command, 1, Bakery.run(x, "pass 1;" + command + "pass 1;"));
            Check.same(command + " stops the run", 1, x.whole(4));
        }
        limitsStopARun();
    }

    private static void limitsStopARun() {
        counts(5, "kind 50 50 1 0 1;".repeat(6));
        counts(8, "house;".repeat(9));
        BakeTurns x = Bakery.with(0, new int[] {50, 60, 1, 0, 40});
        Bakery.doughs(x, 6, 0, 0, 1);
        Check.same("16 doughs", 10, Bakery.run(x, "dough 0 0 1;".repeat(11)));
        Check.same("the most heat", 4, Bakery.run(x, "stoke 0 4;".repeat(5)));
        Check.same("999 logs", 9, Bakery.run(x, "bring 1 99;".repeat(10)));
        Check.same("999 logs", 1, Bakery.run(x, "bring 1 9;bring 1 1;"));
        BakeTurns y = new BakeTurns();
        Bakery.toTick(y, 99000);
        Check.same("100000 ticks", 10, Bakery.run(y, "pass 100;".repeat(12)));
        Check.same("100000 ticks", 100000, y.whole(4));
    }

    private static void thoseBeforeItStayDone() {
        BakeTurns x = new BakeTurns();
        Check.same("two before it, one behind it", 2, Bakery.run(x, "house;house;pass 0;house;"));
        Check.same("households", 2, x.whole(1));
        Check.same("none before it", 0, Bakery.run(x, "pass 0;house;house;"));
        Check.same("households", 2, x.whole(1));
        Check.same("the last one", 3, Bakery.run(x, "house;pass 1;house;pass 101;"));
        Check.same("households", 4, x.whole(1));
        Check.same("ticks", 1, x.whole(4));
    }

    private static void aRunSavesOneState() {
        BakeTurns x = new BakeTurns();
        x.addHouse();
        x.addHouse();
        String[] texts = {"house;house;house;house;house;settle;", "house;pass 0;", "pass 0;", ""};
        for (String text : texts) {
            Bakery.text(x, text);
            Bakery.undoable("\"" + text + "\"", x, x::runCommands);
        }
        Bakery.run(x, "house;house;house;house;house;");
        Check.same("one is saved", 2, x.undo());
        Check.same("that from before the run", 2, x.whole(1));
        Check.same("then the one before it", 1, x.undo());
        Check.same("that from before the household", 1, x.whole(1));
    }

    // ---- undo

    private static void thoseThatAreMarkedSave() {
        BakeTurns x = Bakery.heated(300);
        x.addDough(0, 0, 1);
        x.addDough(1, 0, 2);
        x.addDough(1, 0, 3);
        x.pass(1);
        Bakery.text(x, "pass 3;");
        Bakery.undoable("addKind", x, () -> x.addKind(50, 60, 1, 0, 1));
        Bakery.undoable("addHouse", x, x::addHouse);
        Bakery.undoable("addDough", x, () -> x.addDough(0, 0, 4));
        Bakery.undoable("swap", x, () -> x.swap(1, 2));
        Bakery.undoable("bring", x, () -> x.bring(0, 1));
        Bakery.undoable("stoke", x, () -> x.stoke(0, 1));
        Bakery.undoable("settle", x, x::settle);
        Bakery.undoable("pass", x, () -> x.pass(4));
        x.pass(2);
        Bakery.undoable("clearDoughs", x, x::clearDoughs);
        Bakery.undoable("runCommands", x, x::runCommands);
        othersSaveNothing(x);
    }

    private static void othersSaveNothing(BakeTurns x) {
        x.undo();
        x.undo();
        Bakery.savesNothing("type", x, () -> x.type('x'));
        Bakery.savesNothing("runCommands with a fault", x, x::runCommands);
        Bakery.savesNothing("clearCommands", x, x::clearCommands);
        Bakery.savesNothing("digest", x, x::digest);
        Bakery.savesNothing("values", x, () -> {
            x.kind(0, 0);
            x.house(0, 0);
            x.dough(0, 0);
            x.place(0, 0);
            x.whole(0);
            x.line(0);
        });
        Bakery.savesNothing("what if", x, () -> {
            x.reason(0);
            x.loadedIn(1);
            x.neededLogs(1);
            x.heatIn(9);
            x.spoiledIn(9);
            x.owes(0);
        });
        Bakery.savesNothing("what throws", x, () -> Check.badArgument("0 ticks", x, () -> x.pass(0)));
        BakeTurns y = new BakeTurns();
        y.addHouse();
        Bakery.text(y, "house;");
        y.undo();
        Check.same("the text is not saved with the state", 6, y.whole(14));
        Check.same("it is not lost either", 1, y.runCommands());
    }

    private static void savesAlsoWhatIsNotChanged() {
        BakeTurns x = new BakeTurns();
        Bakery.undoable("clearDoughs without doughs", x, x::clearDoughs);
        Bakery.undoable("settle without use", x, x::settle);
        Bakery.undoable("an empty text", x, x::runCommands);
        Bakery.text(x, "   ");
        Bakery.undoable("a text of spaces", x, x::runCommands);
        Bakery.text(x, "pass 0;");
        Bakery.undoable("a text that does nothing", x, x::runCommands);
        BakeTurns y = Bakery.plain();
        y.addDough(0, 0, 1);
        Bakery.undoable("clearDoughs with one that waits", y, y::clearDoughs);
    }

    private static void savesTheStateFromBefore() {
        BakeTurns x = new BakeTurns();
        x.addHouse();
        x.bring(0, 1);
        x.bring(0, 2);
        x.bring(0, 4);
        int[] due = {3, 1, 0};
        for (int i = 0; i < 3; i++) {
            x.undo();
            Check.same("balance", due[i], x.house(0, 0));
        }
        x.undo();
        Check.same("households", 0, x.whole(1));
    }

    private static void keepsTheLatest4() {
        for (int calls = 1; calls <= 12; calls++) {
            BakeTurns x = new BakeTurns();
            x.addHouse();
            for (int i = 1; i < calls; i++) {
                x.bring(0, 1);
            }
            int kept = Math.min(calls, 4);
            Check.same("calls: " + calls, kept, Bakery.states(x));
            for (int left = kept - 1; left >= 0; left--) {
                Check.same("states left", left, x.undo());
                int brought = calls - 1 - (kept - left);
                Check.same("households", brought >= 0 ? 1 : 0, x.whole(1));
                if (brought >= 0) {
                    Check.same("balance", brought, x.house(0, 0));
                }
            }
            Check.badState("older ones are dropped", x, x::undo);
        }
        BakeTurns y = new BakeTurns();
        y.addHouse();
        for (int round = 0; round < 9; round++) {
            for (int i = 0; i < 5; i++) {
                y.bring(0, 1);
            }
            Check.same("again", 3, y.undo());
            Check.same("and again", 2, y.undo());
            Check.same("balance", 3 * (round + 1), y.house(0, 0));
        }
    }

    // ---- exceptions

    private static void whatThrowsChangesNothing() {
        Supplier<BakeTurns> busy = () -> Bakery.ofTexts(
            "kind 200 300 3 0 40;house;house;bring 0 99;stoke 0 12;dough 0 0 2;dough 0 0 2;dough 0 0 2;pass 1;");
        changesNothing("addKind", IllegalArgumentException.class, busy, x -> x.addKind(200, 199, 1, 0, 1));
        changesNothing("addDough", IndexOutOfBoundsException.class, busy, x -> x.addDough(0, 1, 1));
        changesNothing("addDough", IllegalArgumentException.class, busy, x -> x.addDough(0, 0, 5));
        changesNothing("swap", IndexOutOfBoundsException.class, busy, x -> x.swap(1, 3));
        changesNothing("swap", IllegalArgumentException.class, busy, x -> x.swap(1, 1));
        changesNothing("swap", IllegalStateException.class, busy, x -> x.swap(1, 0));
        changesNothing("bring", IndexOutOfBoundsException.class, busy, x -> x.bring(2, 1));
        changesNothing("bring", IllegalArgumentException.class, busy, x -> x.bring(0, 100));
        changesNothing("stoke", IndexOutOfBoundsException.class, busy, x -> x.stoke(2, 1));
        changesNothing("stoke", IllegalArgumentException.class, busy, x -> x.stoke(0, 17));
        changesNothing("stoke", IllegalStateException.class, busy, x -> x.stoke(0, 5));
        changesNothing("pass", IllegalArgumentException.class, busy, x -> x.pass(101));
        changesNothing("type", IllegalArgumentException.class, busy, x -> x.type(128));
        changesNothing("type", IllegalStateException.class, busy, x -> x.type(';'));
        changesNothing("line", IllegalArgumentException.class, busy, x -> x.line(-1));
        changesNothing("heatIn", IllegalArgumentException.class, busy, x -> x.heatIn(101));
        changesNothing("spoiledIn", IllegalArgumentException.class, busy, x -> x.spoiledIn(101));
        changesNothing("loadedIn", IndexOutOfBoundsException.class, busy, x -> x.loadedIn(3));
        fullStatesRefuse();
    }

    private static void fullStatesRefuse() {
        changesNothing("addKind", IllegalStateException.class, () -> Bakery.ofTexts("kind 50 50 1 0 1;".repeat(5)),
            x -> x.addKind(50, 50, 1, 0, 1));
        changesNothing("addHouse", IllegalStateException.class, () -> Bakery.ofTexts("house;".repeat(8)), BakeTurns::addHouse);
        changesNothing("addDough", IllegalStateException.class, () -> Bakery.ofTexts("kind 50 50 1 0 1;house;",
            "dough 0 0 1;".repeat(12), "dough 0 0 1;".repeat(4)), x -> x.addDough(0, 0, 1));
        changesNothing("bring", IllegalStateException.class,
            () -> Bakery.ofTexts("house;" + "bring 0 99;".repeat(10) + "bring 0 9;"), x -> x.bring(0, 1));
        changesNothing("pass", IllegalStateException.class, TextsSentences::nearTheLastTick, x -> x.pass(51));
        BakeTurns none = new BakeTurns();
        Check.badState("undo", none, none::undo);
    }

    private static BakeTurns nearTheLastTick() {
        BakeTurns x = new BakeTurns();
        Bakery.toTick(x, 99950);
        return x;
    }

    /** With a full text, and with some or with all room on the stack taken: nothing that can be asked or undone differs. */
    private static void changesNothing(String what, Class<? extends RuntimeException> due, Supplier<BakeTurns> made,
            Consumer<BakeTurns> call) {
        for (int settlings = 0; settlings <= 3; settlings += 3) {
            BakeTurns x = made.get();
            BakeTurns y = made.get();
            for (BakeTurns each : new BakeTurns[] {x, y}) {
                for (int i = 0; i < settlings; i++) {
                    each.settle();
                }
                Bakery.text(each, "pass 1;house;" + " ".repeat(137));
            }
            Check.refused(what, x, due, () -> call.accept(x));
            Check.same(what + ": as without the call", y.digest(), x.digest());
            for (int left = Bakery.states(y); left > 0; left--) {
                Check.same(what + ": undo", y.undo(), x.undo());
                Check.same(what + ": as undone without the call", y.digest(), x.digest());
            }
            Check.same(what + ": the text runs as without the call", y.runCommands(), x.runCommands());
            Check.same(what + ": as without the call", y.digest(), x.digest());
        }
    }

    private static void theFirstListedIsThrown() {
        BakeTurns x = Bakery.plain();
        Bakery.run(x, "kind 50 50 1 0 1;".repeat(4));
        Check.badArgument("addKind: argument, state", x, () -> x.addKind(49, 50, 1, 0, 1));
        Bakery.doughs(x, 16, 0, 0, 1);
        Check.outOfBounds("addDough: index, argument, state", x, () -> x.addDough(2, 0, 5));
        Check.outOfBounds("addDough: index, argument, state", x, () -> x.addDough(0, 5, 0));
        Check.badArgument("addDough: argument, state", x, () -> x.addDough(0, 0, 5));
        Check.outOfBounds("swap: index, argument", x, () -> x.swap(16, 16));
        x.stoke(0, 10);
        x.pass(1);
        Check.outOfBounds("swap: index, state", x, () -> x.swap(0, 16));
        Check.outOfBounds("swap: index, state", x, () -> x.swap(-1, 0));
        Check.badArgument("swap: argument, state", x, () -> x.swap(0, 0));
        Check.same("balance 999", 10, Bakery.run(x, "bring 1 90;".repeat(10)));
        Check.outOfBounds("bring: index, argument", x, () -> x.bring(2, 100));
        Check.badArgument("bring: argument, state", x, () -> x.bring(1, 100));
        Check.outOfBounds("stoke: index, argument", x, () -> x.stoke(2, 17));
        Check.badArgument("stoke: argument, state", x, () -> x.stoke(0, 17));
        Check.outOfBounds("kind: index, argument", x, () -> x.kind(5, 5));
        Check.outOfBounds("house: index, argument", x, () -> x.house(2, 7));
        Check.outOfBounds("dough: index, argument", x, () -> x.dough(16, 10));
        Check.outOfBounds("place: index, argument", x, () -> x.place(12, 4));
        Bakery.text(x, " ".repeat(150));
        Check.badArgument("type: argument, state", x, () -> x.type(-1));
        BakeTurns y = new BakeTurns();
        Bakery.toTick(y, 100000);
        Check.badArgument("pass: argument, state", y, () -> y.pass(101));
    }

    private static void exceptionsComeBeforeNone() {
        BakeTurns x = Bakery.plain();
        Check.badArgument("line", x, () -> x.line(-1));
        Check.outOfBounds("reason", x, () -> x.reason(0));
        Check.outOfBounds("loadedIn", x, () -> x.loadedIn(0));
        Check.outOfBounds("neededLogs", x, () -> x.neededLogs(0));
        Check.badArgument("a value of a free place", x, () -> x.place(0, 4));
        Check.badArgument("a value of a free place", x, () -> x.place(0, -1));
        Check.outOfBounds("place", x, () -> x.place(-1, 1));
        Check.outOfBounds("dough", x, () -> x.dough(0, 6));
        x.addDough(0, 0, 1);
        Check.badArgument("a value of a dough", x, () -> x.dough(0, -1));
        Check.outOfBounds("dough -1", x, () -> x.reason(BakeTurns.NONE));
    }

    private static void noneWhereThereIsNone() {
        Check.same("NONE", -1, BakeTurns.NONE);
        BakeTurns x = Bakery.heated(300);
        x.addDough(0, 0, 1);
        Check.same("not loaded", BakeTurns.NONE, x.dough(0, 6));
        Check.same("behind the line", BakeTurns.NONE, x.line(1));
        for (int what = 1; what <= 3; what++) {
            Check.same("a free place", BakeTurns.NONE, x.place(5, what));
        }
        x.pass(1);
        Check.same("it does not wait", BakeTurns.NONE, x.dough(0, 7));
        Check.same("it does not wait", BakeTurns.NONE, x.reason(0));
        Check.same("it does not wait", BakeTurns.NONE, x.loadedIn(0));
        Check.same("it does not wait", BakeTurns.NONE, x.neededLogs(0));
        Check.same("nobody waits", BakeTurns.NONE, x.line(0));
    }
}
