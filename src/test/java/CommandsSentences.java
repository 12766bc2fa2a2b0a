/** Promises 23 to 27: the command text, undo and the hash. */
final class CommandsSentences {
    private CommandsSentences() {
    }

    static void all() {
        typing();
        clearing();
        running();
        undoing();
        hashing();
    }

    private static void typing() {
        Sentence.section("Promise 23");
        Sentence.holds("Appends a byte to the command text.", CommandsSentences::appendsAByte);
        Sentence.holds("`value`: 0 to 127", CommandsSentences::values0To127);
        Sentence.holds("Returns the length of the text.", CommandsSentences::returnsTheLength);
        Sentence.holds("Throws `IllegalArgumentException` if value is out of range", CommandsSentences::wrongValues);
        Sentence.holds("Throws `IllegalStateException` if the text has 150 bytes", CommandsSentences::noByteBehind150);
    }

    private static void clearing() {
        Sentence.section("Promise 24");
        Sentence.holds("Empties the command text.", CommandsSentences::emptiesTheText);
        Sentence.holds("Returns the length that it had.", CommandsSentences::returnsTheLengthThatItHad);
    }

    private static void running() {
        Sentence.section("Promise 25");
        Sentence.holds("Runs the command text, which stays as it is.", CommandsSentences::theTextStays);
        Sentence.holds("Undoable, if it has no fault.", CommandsSentences::undoableWithoutFault);
        Sentence.holds("Returns the number of commands that were carried out;", CommandsSentences::returnsHowManyWereCarriedOut);
        Sentence.holds("-10 minus the fault if it has one.", CommandsSentences::returnsMinus10MinusTheFault);
    }

    private static void undoing() {
        Sentence.section("Promise 26");
        Sentence.holds("Restores the latest saved state and removes it from the undo stack.", CommandsSentences::restoresTheLatest);
        Sentence.holds("Returns the number of states that are left on the stack.", CommandsSentences::returnsHowManyAreLeft);
        Sentence.holds("Throws `IllegalStateException` if the stack is empty", CommandsSentences::anEmptyStack);
    }

    private static void hashing() {
        Sentence.section("Promise 27");
        Sentence.holds("Returns a hash of the state.", CommandsSentences::hashesTheState);
        Sentence.holds("It starts with h = 43350. For each of the following values v, in this order, h becomes 31 * h + v (long "
            + "arithmetic, overflow wraps).", CommandsSentences::hashOfANewObject);
        Sentence.holds("the number of states on the undo stack;", CommandsSentences::hashHasTheStates);
        Sentence.holds("whole() of 0 to 14; for each kind kind() of 0 to 4; for each household house() of 0 to 6 and owes(); for "
            + "each dough dough() of 0 to 9 and reason(); for each place place() of 0 to 3; for each place in the line line(); "
            + "heatIn(10).", CommandsSentences::hashHasTheValues);
        Sentence.holds("Returns the hash.", CommandsSentences::hashIsTheSameWhenAskedAgain);
    }

    // ---- promise 23

    private static void appendsAByte() {
        BakeTurns x = new BakeTurns();
        for (char c : "house;".toCharArray()) {
            Check.isTrue("no command yet", x.runCommands() != 1);
            x.type(c);
        }
        Check.same("all in their order", 1, x.runCommands());
        x.type('h');
        Check.same("behind the others", -10 - 6, x.runCommands());
    }

    private static void values0To127() {
        for (int value = 0; value <= 127; value++) {
            BakeTurns x = new BakeTurns();
            Check.same("byte " + value, 1, x.type(value));
            Check.same("byte " + value, value == ' ' ? 0 : -10, x.runCommands());
        }
        BakeTurns x = new BakeTurns();
        for (int value : new int[] {-1, 128, 255, 256 + ' ', Integer.MAX_VALUE, Integer.MIN_VALUE}) {
            Check.badArgument("byte " + value, x, () -> x.type(value));
        }
    }

    private static void returnsTheLength() {
        BakeTurns x = new BakeTurns();
        for (int i = 1; i <= 150; i++) {
            Check.same("length", i, x.type(' '));
        }
        x.clearCommands();
        Check.same("from its start again", 1, x.type(' '));
    }

    private static void wrongValues() {
        BakeTurns x = new BakeTurns();
        Check.badArgument("-1", x, () -> x.type(-1));
        Check.badArgument("128", x, () -> x.type(128));
        Bakery.text(x, " ".repeat(150));
        Check.badArgument("128, and full", x, () -> x.type(128));
        Check.badArgument("-1, and full", x, () -> x.type(-1));
    }

    private static void noByteBehind150() {
        BakeTurns x = new BakeTurns();
        Bakery.text(x, " ".repeat(149));
        Check.same("the 150th", 150, x.type(' '));
        Check.badState("the 151st", x, () -> x.type(' '));
        Check.badState("the 151st", x, () -> x.type('x'));
        Check.same("spaces alone", 0, x.runCommands());
        Check.same("cleared", 150, x.clearCommands());
        Check.same("typed anew", 1, x.type('x'));
    }

    // ---- promise 24

    private static void emptiesTheText() {
        BakeTurns x = new BakeTurns();
        Bakery.text(x, "house;");
        x.clearCommands();
        Check.same("length", 0, x.whole(14));
        Check.same("no command", 0, x.runCommands());
        Check.same("households", 0, x.whole(1));
        x.type('h');
        Check.same("nothing of it comes back", -10, x.runCommands());
        Bakery.savesNothing("it saves nothing", x, x::clearCommands);
    }

    private static void returnsTheLengthThatItHad() {
        BakeTurns x = new BakeTurns();
        Check.same("empty", 0, x.clearCommands());
        x.type('x');
        Check.same("one byte", 1, x.clearCommands());
        Check.same("empty again", 0, x.clearCommands());
        Bakery.text(x, "x".repeat(150));
        Check.same("full", 150, x.clearCommands());
    }

    // ---- promise 25

    private static void theTextStays() {
        BakeTurns x = new BakeTurns();
        Bakery.text(x, "house; ");
        for (int i = 1; i <= 8; i++) {
            Check.same("run", 1, x.runCommands());
            Check.same("households", i, x.whole(1));
            Check.same("length", 7, x.whole(14));
        }
        Check.same("a ninth is too much", 0, x.runCommands());
        Check.same("length", 7, x.whole(14));
        x.type('x');
        Check.same("a fault", -10 - 7, x.runCommands());
        Check.same("length", 8, x.whole(14));
        Check.same("the same fault", -10 - 7, x.runCommands());
    }

    private static void undoableWithoutFault() {
        BakeTurns x = new BakeTurns();
        for (String text : new String[] {"house;pass 7;", "pass 0;", "", "  "}) {
            Bakery.text(x, text);
            Bakery.undoable("\"" + text + "\"", x, x::runCommands);
        }
        for (String text : new String[] {"house", "house;x", ";", "pass 1000;"}) {
            Bakery.text(x, text);
            Bakery.savesNothing("\"" + text + "\"", x, x::runCommands);
        }
    }

    private static void returnsHowManyWereCarriedOut() {
        Check.same("none", 0, Bakery.run(new BakeTurns(), ""));
        Check.same("one", 1, Bakery.run(new BakeTurns(), "house;"));
        Check.same("all", 8, Bakery.run(new BakeTurns(), "house;".repeat(8)));
        Check.same("those before the one that would throw", 8, Bakery.run(new BakeTurns(), "house;".repeat(25)));
        Check.same("none before it", 0, Bakery.run(new BakeTurns(), "pass 0;house;"));
        Check.same("the most that a text has room for", 21, Bakery.run(new BakeTurns(), "settle;".repeat(21)));
        Check.same("pass counts as one, whatever it takes out", 5,
            Bakery.run(new BakeTurns(), "house;kind 50 400 1 0 1;stoke 0 9;dough 0 0 1;pass 9;"));
    }

    private static void returnsMinus10MinusTheFault() {
        Check.same("fault 0", -10, Bakery.run(new BakeTurns(), "x"));
        Check.same("fault 1", -11, Bakery.run(new BakeTurns(), " x"));
        Check.same("fault 5", -15, Bakery.run(new BakeTurns(), "house"));
        Check.same("fault 149", -159, Bakery.run(new BakeTurns(), " ".repeat(149) + "x"));
        Check.same("fault 150", -160, Bakery.run(new BakeTurns(), " ".repeat(145) + "house"));
        Check.same("the first of two", -16, Bakery.run(new BakeTurns(), "house;;house"));
        Check.same("not where a command would throw", -17, Bakery.run(new BakeTurns(), "pass 0;;"));
    }

    // ---- promise 26

    private static void restoresTheLatest() {
        BakeTurns x = Bakery.heated(300);
        x.addDough(0, 0, 4);
        x.addDough(1, 0, 2);
        long first = Bakery.hashOf(x, 0);
        x.pass(2);
        long second = Bakery.hashOf(x, 0);
        x.addDough(0, 0, 1);
        x.bring(0, 1);
        x.undo();
        x.undo();
        Check.same("the latest", second, Bakery.hashOf(x, 0));
        x.undo();
        Check.same("the one before it", first, Bakery.hashOf(x, 0));
        x.pass(2);
        Check.same("the same again", second, Bakery.hashOf(x, 0));
        x.undo();
        Check.same("and back", first, Bakery.hashOf(x, 0));
        everyValueComesBack();
    }

    /** Every number of the state differs from a new object's, and one run changes all of them but the kinds' own. */
    private static void everyValueComesBack() {
        BakeTurns x = Bakery.with(300, new int[] {250, 301, 5, 0, 40}, new int[] {300, 400, 20, 0, 1},
            new int[] {250, 340, 20, 0, 40}, new int[] {200, 300, 3, 0, 6});
        x.addDough(0, 0, 2);
        x.addDough(1, 2, 3);
        x.addDough(1, 1, 4);
        x.addDough(1, 3, 1);
        x.addDough(0, 3, 1);
        x.pass(2);
        x.stoke(1, 3);
        x.pass(3);
        Bakery.doughsAre("states", x, 4, 2, 1, 3, 0, 0);
        Check.same("burnt", 2, x.dough(0, 9));
        long before = Bakery.hashOf(x, 0);
        Bakery.text(x, "house;kind 50 400 1 0 40;swap 3 4;bring 1 9;dough 2 4 4;pass 100;stoke 2 9;settle;");
        Check.same("run", 8, x.runCommands());
        Check.isTrue("one more is spoiled", x.whole(13) > 1);
        Check.same("none is left", 0, x.clearDoughs());
        x.addDough(1, 3, 4);
        x.undo();
        x.undo();
        x.undo();
        x.clearCommands();
        Check.same("all as before", before, Bakery.hashOf(x, 0));
        Check.same("it goes on as before", 0, x.pass(1));
        Bakery.doughsAre("states", x, 4, 2, 1, 3, 0, 0);
    }

    private static void returnsHowManyAreLeft() {
        BakeTurns x = new BakeTurns();
        for (int i = 0; i < 4; i++) {
            x.addHouse();
        }
        for (int i = 3; i >= 0; i--) {
            Check.same("left", i, x.undo());
        }
        x.addHouse();
        Check.same("one alone", 0, x.undo());
        for (int i = 0; i < 8; i++) {
            x.addHouse();
        }
        Check.same("four of eight, without the one that is removed", 3, x.undo());
    }

    private static void anEmptyStack() {
        BakeTurns x = new BakeTurns();
        Check.badState("new", x, x::undo);
        x.addHouse();
        x.undo();
        Check.badState("all removed", x, x::undo);
        Check.badState("still", x, x::undo);
        for (int i = 0; i < 6; i++) {
            x.addHouse();
        }
        for (int i = 0; i < 4; i++) {
            x.undo();
        }
        Check.badState("older ones were dropped", x, x::undo);
        Check.same("two are left", 2, x.whole(1));
    }

    // ---- promise 27

    private static void hashesTheState() {
        BakeTurns x = Bakery.heated(300);
        BakeTurns y = Bakery.heated(300);
        Check.same("alike", x.digest(), y.digest());
        x.addDough(0, 0, 1);
        Check.isTrue("not alike", x.digest() != y.digest());
        y.addDough(0, 0, 1);
        Check.same("alike again", x.digest(), y.digest());
        x.type(' ');
        Check.isTrue("the length of the text counts", x.digest() != y.digest());
        x.clearCommands();
        Check.same("its bytes do not", x.digest(), y.digest());
    }

    private static void hashOfANewObject() {
        long h = 43350;
        int[] values = new int[1 + 15 + 12 * 4 + 1];
        values[1 + 6] = 12;
        for (int p = 0; p < 12; p++) {
            for (int i = 1; i <= 3; i++) {
                values[16 + 4 * p + i] = -1;
            }
        }
        for (int v : values) {
            h = 31 * h + v;
        }
        Check.same("a new object", h, new BakeTurns().digest());
    }

    private static void hashHasTheStates() {
        BakeTurns x = new BakeTurns();
        for (int i = 1; i <= 6; i++) {
            x.settle();
            Check.same("states", Math.min(i, 4), Bakery.states(x));
            Check.same("hash", Bakery.hashOf(x, Math.min(i, 4)), x.digest());
        }
        x.undo();
        Check.same("three are left", Bakery.hashOf(x, 3), x.digest());
    }

    private static void hashHasTheValues() {
        BakeTurns x = Bakery.with(300, new int[] {200, 300, 3, 1, 9}, new int[] {250, 301, 5, 0, 40},
            new int[] {350, 400, 1, 0, 1});
        Check.same("kinds and households", Bakery.hashOf(x, 4), x.digest());
        for (int kind = 0; kind < 3; kind++) {
            x.addDough(kind % 2, kind, 2 + kind);
            x.addDough(1 - kind % 2, kind, 1);
            Check.same("doughs", Bakery.hashOf(x, 4), x.digest());
        }
        for (int tick = 0; tick < 12; tick++) {
            x.pass(1);
            Check.same("tick " + tick, Bakery.hashOf(x, 4), x.digest());
            if (tick == 2) {
                x.stoke(1, 4);
                Check.same("stoked", Bakery.hashOf(x, 4), x.digest());
            }
        }
        x.clearDoughs();
        x.settle();
        Bakery.text(x, "house;");
        Check.same("cleared, settled, typed", Bakery.hashOf(x, 4), x.digest());
    }

    private static void hashIsTheSameWhenAskedAgain() {
        BakeTurns x = Bakery.heated(300);
        x.addDough(0, 0, 1);
        long first = x.digest();
        Check.same("asked again", first, x.digest());
        x.loadedIn(0);
        x.spoiledIn(50);
        Check.same("behind what-if questions", first, x.digest());
        x.pass(1);
        x.undo();
        Check.isTrue("one state less", first != x.digest());
    }
}
