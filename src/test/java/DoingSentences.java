/** Promises 1 to 10: a new object, kinds, households, doughs, logs and ticks. */
final class DoingSentences {
    private static final int FAR = Integer.MAX_VALUE;
    private static final int FAR_BELOW = Integer.MIN_VALUE;

    private DoingSentences() {
    }

    static void all() {
        Sentence.section("Promise 1");
        Sentence.holds("Creates a cold, empty oven, without kinds, households and doughs, at tick 0, with an empty command text "
            + "and an empty undo stack.", DoingSentences::aNewObject);
        kinds();
        households();
        doughs();
        clearing();
        swapping();
        bringing();
        stoking();
        settling();
        passing();
    }

    private static void kinds() {
        Sentence.section("Promise 2");
        Sentence.holds("Adds a kind.", DoingSentences::addsAKind);
        Sentence.holds("Undoable.", DoingSentences::addKindIsUndoable);
        Sentence.holds("`least`: least heat, 50 to 350", () -> bounds(0, 50, 350));
        Sentence.holds("`greatest`: greatest heat, least to 400", DoingSentences::greatestIsLeastTo400);
        Sentence.holds("`bake`: 1 to 20 ticks", () -> bounds(2, 1, 20));
        Sentence.holds("`ripen`: 0 to 30 ticks", () -> bounds(3, 0, 30));
        Sentence.holds("`keep`: 1 to 40 ticks", () -> bounds(4, 1, 40));
        Sentence.holds("Returns the number of the kind.", DoingSentences::returnsTheNumberOfTheKind);
        Sentence.holds("Throws `IllegalArgumentException` if an argument is out of range", DoingSentences::wrongArgumentsOfAKind);
        Sentence.holds("Throws `IllegalStateException` if there are 5 kinds", DoingSentences::fiveKindsAreAll);
    }

    private static void households() {
        Sentence.section("Promise 3");
        Sentence.holds("Adds a household.", DoingSentences::addsAHousehold);
        Sentence.holds("Undoable.", DoingSentences::addHouseIsUndoable);
        Sentence.holds("Returns the number of the household.", DoingSentences::returnsTheNumberOfTheHousehold);
        Sentence.holds("Throws `IllegalStateException` if there are 8 households", DoingSentences::eightHouseholdsAreAll);
    }

    private static void doughs() {
        Sentence.section("Promise 4");
        Sentence.holds("Adds a dough, which comes to the end of the line.", DoingSentences::addsADoughAtTheEndOfTheLine);
        Sentence.holds("Undoable.", DoingSentences::addDoughIsUndoable);
        Sentence.holds("`house`: number of a household", DoingSentences::householdOfADough);
        Sentence.holds("`kind`: number of a kind", DoingSentences::kindOfADough);
        Sentence.holds("`loaves`: 1 to 4", DoingSentences::loavesOfADough);
        Sentence.holds("Returns the number of the dough.", DoingSentences::returnsTheNumberOfTheDough);
        Sentence.holds("Throws `IndexOutOfBoundsException` if there is no such household or kind",
            DoingSentences::noSuchHouseholdOrKind);
        Sentence.holds("Throws `IllegalArgumentException` if loaves is out of range", DoingSentences::wrongLoaves);
        Sentence.holds("Throws `IllegalStateException` if there are 16 doughs", DoingSentences::sixteenDoughsAreAll);
    }

    private static void clearing() {
        Sentence.section("Promise 5");
        Sentence.holds("Clears away all doughs that are done or spoiled;", DoingSentences::clearsDoneAndSpoiled);
        Sentence.holds("the numbers of the others close up, in their order.", DoingSentences::numbersCloseUp);
        Sentence.holds("Undoable.", DoingSentences::clearDoughsIsUndoable);
        Sentence.holds("Returns the number of doughs that are left.", DoingSentences::returnsHowManyAreLeft);
    }

    private static void swapping() {
        Sentence.section("Promise 6");
        Sentence.holds("Lets two doughs swap their places in the line.", DoingSentences::swapsPlaces);
        Sentence.holds("Undoable.", DoingSentences::swapIsUndoable);
        Sentence.holds("`dough`: number of a dough", DoingSentences::firstToSwap);
        Sentence.holds("`other`: number of another dough", DoingSentences::otherToSwap);
        Sentence.holds("Returns the place in the line that the first one has then, from 0.", DoingSentences::returnsThePlaceOfTheFirst);
        Sentence.holds("Throws `IndexOutOfBoundsException` if there is no such dough", DoingSentences::noSuchDoughToSwap);
        Sentence.holds("Throws `IllegalArgumentException` if both are the same", DoingSentences::bothAreTheSame);
        Sentence.holds("Throws `IllegalStateException` if one of them is not waiting", DoingSentences::oneIsNotWaiting);
    }

    private static void bringing() {
        Sentence.section("Promise 7");
        Sentence.holds("Lets a household bring logs.", DoingSentences::bringsLogs);
        Sentence.holds("Undoable.", DoingSentences::bringIsUndoable);
        Sentence.holds("`house`: number of a household", DoingSentences::householdThatBrings);
        Sentence.holds("`logs`: 1 to 99", DoingSentences::logsToBring);
        Sentence.holds("Returns its balance then.", DoingSentences::returnsItsBalance);
        Sentence.holds("Throws `IndexOutOfBoundsException` if there is no such household", DoingSentences::noSuchHouseholdToBring);
        Sentence.holds("Throws `IllegalArgumentException` if logs is out of range", DoingSentences::wrongLogsToBring);
        Sentence.holds("Throws `IllegalStateException` if its balance would be greater than 999", DoingSentences::balanceAbove999);
    }

    private static void stoking() {
        Sentence.section("Promise 8");
        Sentence.holds("Lets a household stoke the oven.", DoingSentences::stokesTheOven);
        Sentence.holds("Undoable.", DoingSentences::stokeIsUndoable);
        Sentence.holds("`house`: number of a household", DoingSentences::householdThatStokes);
        Sentence.holds("`logs`: 1 to 16", DoingSentences::logsToStoke);
        Sentence.holds("Returns the heat then.", DoingSentences::returnsTheHeat);
        Sentence.holds("Throws `IndexOutOfBoundsException` if there is no such household", DoingSentences::noSuchHouseholdToStoke);
        Sentence.holds("Throws `IllegalArgumentException` if logs is out of range", DoingSentences::wrongLogsToStoke);
        Sentence.holds("Throws `IllegalStateException` if its balance would be below -20, or the heat greater than 400",
            DoingSentences::balanceBelow20OrHeatAbove400);
    }

    private static void settling() {
        Sentence.section("Promise 9");
        Sentence.holds("Settles the logs that were burnt.", DoingSentences::settlesTheLogs);
        Sentence.holds("Undoable.", DoingSentences::settleIsUndoable);
        Sentence.holds("Returns the number of logs that were settled;", DoingSentences::returnsTheLogsThatWereSettled);
        Sentence.holds("0 if no use was counted.", DoingSentences::returns0WithoutUse);
    }

    private static void passing() {
        Sentence.section("Promise 10");
        Sentence.holds("Lets ticks pass.", DoingSentences::letsTicksPass);
        Sentence.holds("Undoable.", DoingSentences::passIsUndoable);
        Sentence.holds("`ticks`: 1 to 100", DoingSentences::ticksToPass);
        Sentence.holds("Returns the number of doughs that were taken out in them.", DoingSentences::returnsHowManyWereTakenOut);
        Sentence.holds("Throws `IllegalArgumentException` if ticks is out of range", DoingSentences::wrongTicks);
        Sentence.holds("Throws `IllegalStateException` if there would be more than 100000 ticks", DoingSentences::moreThan100000Ticks);
    }

    // ---- promise 1

    private static void aNewObject() {
        BakeTurns x = new BakeTurns();
        Bakery.wholeIs("new", x, 0, 0, 0, 0, 0, 0, 12, 0, 0, 0, 0, 0, 0, 0, 0);
        Bakery.lineIs("new", x);
        for (int p = 0; p < 12; p++) {
            Bakery.placeIs("new", x, p, 0, -1, -1, -1);
        }
        Check.outOfBounds("no kind", x, () -> x.kind(0, 0));
        Check.outOfBounds("no household", x, () -> x.house(0, 0));
        Check.outOfBounds("no dough", x, () -> x.dough(0, 0));
        Check.badState("an empty stack", x, x::undo);
        Check.same("an empty text", 0, x.clearCommands());
        Check.same("one that runs", 0, x.runCommands());
        BakeTurns y = new BakeTurns();
        y.addHouse();
        y.stoke(0, 1);
        y.type('x');
        Bakery.wholeIs("nothing is shared", new BakeTurns(), 0, 0, 0, 0, 0, 0, 12, 0, 0, 0, 0, 0, 0, 0, 0);
    }

    // ---- promise 2

    private static void kindIs(BakeTurns x, int kind, int... due) {
        for (int i = 0; i < due.length; i++) {
            Check.same("kind(" + kind + ", " + i + ")", due[i], x.kind(kind, i));
        }
    }

    private static void addsAKind() {
        BakeTurns x = new BakeTurns();
        x.addKind(123, 234, 5, 6, 7);
        Check.same("kinds", 1, x.whole(0));
        kindIs(x, 0, 123, 234, 5, 6, 7);
        x.addKind(60, 61, 2, 3, 4);
        Check.same("kinds", 2, x.whole(0));
        kindIs(x, 0, 123, 234, 5, 6, 7);
        kindIs(x, 1, 60, 61, 2, 3, 4);
    }

    private static void addKindIsUndoable() {
        BakeTurns x = new BakeTurns();
        Bakery.undoable("addKind", x, () -> x.addKind(50, 60, 1, 0, 1));
        x.addKind(50, 60, 1, 0, 1);
        Bakery.undoable("another", x, () -> x.addKind(70, 80, 2, 3, 4));
        x.addKind(90, 100, 5, 6, 7);
        kindIs(x, 1, 90, 100, 5, 6, 7);
    }

    /** Of an argument of addKind, the least and the greatest are taken; one less and one more are refused. */
    private static void bounds(int argument, int least, int greatest) {
        for (int value : new int[] {least, greatest}) {
            int[] v = {200, 400, 5, 5, 5};
            v[argument] = value;
            BakeTurns x = new BakeTurns();
            Check.same("addKind with " + value, 0, x.addKind(v[0], v[1], v[2], v[3], v[4]));
            kindIs(x, 0, v);
        }
        for (int value : new int[] {least - 1, greatest + 1, FAR, FAR_BELOW}) {
            int[] v = {200, 400, 5, 5, 5};
            v[argument] = value;
            BakeTurns x = new BakeTurns();
            Check.badArgument("addKind with " + value, x, () -> x.addKind(v[0], v[1], v[2], v[3], v[4]));
        }
    }

    private static void greatestIsLeastTo400() {
        bounds(1, 200, 400);
        BakeTurns x = new BakeTurns();
        Check.same("the least of all", 0, x.addKind(50, 50, 1, 0, 1));
        Check.same("the greatest of all", 1, x.addKind(350, 350, 1, 0, 1));
        Check.badArgument("one below the greatest of all", x, () -> x.addKind(350, 349, 1, 0, 1));
        Check.badArgument("a range of its own does not matter", x, () -> x.addKind(351, 400, 1, 0, 1));
    }

    private static void returnsTheNumberOfTheKind() {
        BakeTurns x = new BakeTurns();
        for (int k = 0; k < 5; k++) {
            Check.same("number", k, x.addKind(50, 60, 1, 0, 1));
        }
        x.undo();
        x.undo();
        Check.same("a number that became free", 3, x.addKind(50, 60, 1, 0, 1));
    }

    private static void wrongArgumentsOfAKind() {
        BakeTurns x = new BakeTurns();
        int[][] wrong = {{49, 300, 5, 5, 5}, {200, 199, 5, 5, 5}, {200, 300, 0, 5, 5}, {200, 300, 5, -1, 5}, {200, 300, 5, 5, 0},
            {351, 400, 5, 5, 5}, {200, 401, 5, 5, 5}, {200, 300, 21, 5, 5}, {200, 300, 5, 31, 5}, {200, 300, 5, 5, 41},
            {FAR, FAR, FAR, FAR, FAR}, {FAR_BELOW, FAR_BELOW, FAR_BELOW, FAR_BELOW, FAR_BELOW}};
        for (int[] v : wrong) {
            Check.badArgument(v[0] + " " + v[1] + " " + v[2] + " " + v[3] + " " + v[4], x,
                () -> x.addKind(v[0], v[1], v[2], v[3], v[4]));
        }
        Check.same("kinds", 0, x.whole(0));
    }

    private static void fiveKindsAreAll() {
        BakeTurns x = new BakeTurns();
        for (int k = 0; k < 5; k++) {
            x.addKind(50, 60, 1, 0, 1);
        }
        Check.badState("a sixth", x, () -> x.addKind(50, 60, 1, 0, 1));
        x.undo();
        Check.same("a fifth again", 4, x.addKind(50, 60, 1, 0, 1));
        Check.badState("a sixth again", x, () -> x.addKind(50, 60, 1, 0, 1));
    }

    // ---- promise 3

    private static void addsAHousehold() {
        BakeTurns x = new BakeTurns();
        x.addHouse();
        Check.same("households", 1, x.whole(1));
        Bakery.houseIs("new", x, 0, 0, 0, 0, 0, 0, 0, 0);
        x.bring(0, 9);
        x.addHouse();
        Bakery.houseIs("new", x, 1, 0, 0, 0, 0, 0, 0, 0);
        Bakery.houseIs("as it was", x, 0, 9, 0, 0, 9, 0, 0, 0);
    }

    private static void addHouseIsUndoable() {
        BakeTurns x = new BakeTurns();
        Bakery.undoable("addHouse", x, x::addHouse);
        x.addHouse();
        x.addHouse();
        x.bring(1, 9);
        x.undo();
        x.undo();
        x.addHouse();
        Bakery.houseIs("nothing of the one that was undone", x, 1, 0, 0, 0, 0, 0, 0, 0);
    }

    private static void returnsTheNumberOfTheHousehold() {
        BakeTurns x = new BakeTurns();
        for (int h = 0; h < 8; h++) {
            Check.same("number", h, x.addHouse());
        }
        x.undo();
        x.undo();
        Check.same("a number that became free", 6, x.addHouse());
    }

    private static void eightHouseholdsAreAll() {
        BakeTurns x = new BakeTurns();
        for (int h = 0; h < 8; h++) {
            x.addHouse();
        }
        Check.badState("a ninth", x, x::addHouse);
        x.undo();
        Check.same("an eighth again", 7, x.addHouse());
        Check.badState("a ninth again", x, x::addHouse);
    }

    // ---- promise 4

    private static void addsADoughAtTheEndOfTheLine() {
        BakeTurns x = Bakery.heated(300);
        x.addDough(1, 0, 3);
        Bakery.doughIs("new", x, 0, 1, 0, 3, 0, 0, 0, -1, 0, 0, 0);
        x.addDough(0, 0, 1);
        x.addDough(0, 0, 2);
        x.swap(0, 2);
        x.addDough(0, 0, 4);
        Bakery.lineIs("at the end", x, 2, 1, 0, 3);
        x.pass(1);
        x.addDough(0, 0, 4);
        Bakery.lineIs("at the end", x, 1, 0, 3, 4);
        Check.same("doughs", 5, x.whole(2));
        BakeTurns y = ofABurntAndOneInTheOven();
        y.pass(60);
        y.clearDoughs();
        y.addDough(1, 0, 1);
        Bakery.doughIs("nothing of the burnt one that had its number", y, 0, 1, 0, 1, 0, 0, 0, -1, 0, 0, 0);
        BakeTurns z = Bakery.ofTexts("kind 50 60 1 0 1;house;dough 0 0 4;pass 2;");
        z.clearDoughs();
        z.addDough(0, 0, 1);
        Bakery.doughIs("nothing of the spoiled one that had its number", z, 0, 0, 0, 1, 0, 0, 0, -1, 0, 0, 0);
    }

    /** Dough 0 is done with two burnt loaves, dough 1 has been in the oven for five ticks. */
    private static BakeTurns ofABurntAndOneInTheOven() {
        BakeTurns x = Bakery.with(300, new int[] {250, 301, 5, 0, 40}, new int[] {50, 400, 20, 0, 40});
        x.addDough(0, 0, 2);
        x.addDough(1, 1, 1);
        x.pass(1);
        x.stoke(0, 2);
        x.pass(4);
        Check.same("burnt", 2, x.dough(0, 9));
        return x;
    }

    private static void addDoughIsUndoable() {
        BakeTurns x = Bakery.ofTexts("kind 200 300 3 0 40;house;house;");
        Bakery.undoable("addDough", x, () -> x.addDough(0, 0, 1));
        x.addDough(0, 0, 1);
        Bakery.undoable("another", x, () -> x.addDough(1, 0, 4));
        Bakery.lineIs("the first alone", x, 0);
    }

    private static void householdOfADough() {
        BakeTurns x = Bakery.plain();
        x.addDough(1, 0, 1);
        x.addDough(0, 0, 1);
        Bakery.doughsAre("household", x, 0, 1, 0);
        for (int house : new int[] {-1, 2, 8, FAR, FAR_BELOW}) {
            Check.outOfBounds("household " + house, x, () -> x.addDough(house, 0, 1));
        }
    }

    private static void kindOfADough() {
        BakeTurns x = Bakery.with(0, new int[] {50, 60, 1, 0, 9}, new int[] {50, 60, 1, 0, 9});
        x.addDough(0, 1, 1);
        x.addDough(0, 0, 1);
        Bakery.doughsAre("kind", x, 1, 1, 0);
        for (int kind : new int[] {-1, 2, 5, FAR, FAR_BELOW}) {
            Check.outOfBounds("kind " + kind, x, () -> x.addDough(0, kind, 1));
        }
    }

    private static void loavesOfADough() {
        BakeTurns x = Bakery.plain();
        for (int loaves = 1; loaves <= 4; loaves++) {
            x.addDough(0, 0, loaves);
        }
        Bakery.doughsAre("loaves", x, 2, 1, 2, 3, 4);
        for (int loaves : new int[] {0, 5, -1, FAR, FAR_BELOW}) {
            Check.badArgument(loaves + " loaves", x, () -> x.addDough(0, 0, loaves));
        }
    }

    private static void returnsTheNumberOfTheDough() {
        BakeTurns x = Bakery.with(0, new int[] {50, 60, 1, 0, 1}, new int[] {50, 60, 1, 0, 40});
        Check.same("number", 0, x.addDough(0, 0, 1));
        Check.same("number", 1, x.addDough(0, 1, 1));
        Check.same("number", 2, x.addDough(0, 0, 1));
        x.pass(2);
        Check.same("spoiled ones keep their numbers", 3, x.addDough(0, 0, 1));
        x.clearDoughs();
        Check.same("two are left", 2, x.addDough(0, 0, 1));
    }

    private static void noSuchHouseholdOrKind() {
        BakeTurns x = new BakeTurns();
        Check.outOfBounds("neither", x, () -> x.addDough(0, 0, 1));
        x.addHouse();
        Check.outOfBounds("no kind", x, () -> x.addDough(0, 0, 1));
        x.undo();
        x.addKind(50, 60, 1, 0, 1);
        Check.outOfBounds("no household", x, () -> x.addDough(0, 0, 1));
        x.addHouse();
        Check.same("both", 0, x.addDough(0, 0, 1));
        Check.outOfBounds("household 1", x, () -> x.addDough(1, 0, 1));
        Check.outOfBounds("kind 1", x, () -> x.addDough(0, 1, 1));
        Check.outOfBounds("household -1", x, () -> x.addDough(-1, 0, 1));
        Check.outOfBounds("kind -1", x, () -> x.addDough(0, -1, 1));
        Check.outOfBounds("kind 1 and wrong loaves", x, () -> x.addDough(0, 1, 0));
    }

    private static void wrongLoaves() {
        BakeTurns x = Bakery.plain();
        Check.badArgument("0", x, () -> x.addDough(1, 0, 0));
        Check.badArgument("5", x, () -> x.addDough(1, 0, 5));
        Bakery.doughs(x, 16, 0, 0, 1);
        Check.badArgument("5, and full", x, () -> x.addDough(1, 0, 5));
    }

    private static void sixteenDoughsAreAll() {
        BakeTurns x = Bakery.with(0, new int[] {50, 60, 1, 0, 1}, new int[] {50, 60, 1, 0, 40});
        x.addDough(0, 0, 1);
        Bakery.doughs(x, 15, 0, 1, 1);
        Check.badState("a 17th", x, () -> x.addDough(0, 0, 1));
        x.pass(2);
        Check.same("one is spoiled", 15, x.whole(5));
        Check.badState("it counts nevertheless", x, () -> x.addDough(0, 0, 1));
        x.clearDoughs();
        Check.same("until it is cleared away", 15, x.addDough(0, 0, 1));
        Check.badState("a 17th", x, () -> x.addDough(0, 0, 1));
    }

    // ---- promise 5

    /** Doughs 0 to 5: done, waiting, spoiled, in the oven, done, waiting. */
    private static BakeTurns ofAllStates() {
        BakeTurns x = Bakery.with(300, new int[] {200, 300, 1, 0, 40}, new int[] {200, 400, 20, 0, 40},
            new int[] {50, 60, 1, 0, 1}, new int[] {50, 60, 1, 0, 40});
        x.addDough(0, 0, 1);
        x.addDough(1, 3, 2);
        x.addDough(0, 2, 3);
        x.addDough(1, 1, 4);
        x.addDough(0, 0, 2);
        x.addDough(0, 3, 3);
        x.pass(3);
        return x;
    }

    private static void clearsDoneAndSpoiled() {
        BakeTurns x = ofAllStates();
        Bakery.doughsAre("before", x, 4, 2, 0, 3, 1, 2, 0);
        x.clearDoughs();
        Check.same("doughs", 3, x.whole(2));
        Bakery.doughsAre("neither done nor spoiled", x, 4, 0, 1, 0);
        Check.same("number of its doughs", 1, x.house(0, 4));
        Check.same("what is counted in all stays", 3, x.whole(12));
        Check.same("what is counted in all stays", 1, x.whole(13));
        Check.outOfBounds("dough 3", x, () -> x.dough(3, 0));
        x.clearDoughs();
        Check.same("none to clear away", 3, x.whole(2));
        x.pass(50);
        x.clearDoughs();
        Check.same("all", 0, x.whole(2));
    }

    private static void numbersCloseUp() {
        BakeTurns x = ofAllStates();
        x.swap(1, 5);
        x.clearDoughs();
        Bakery.doughIs("was 1", x, 0, 1, 3, 2, 3, 0, 5, -1, 1, 0, 0);
        Bakery.doughIs("was 3", x, 1, 1, 1, 4, 2, 1, 1, 1, -1, 0xF, 0);
        Bakery.doughIs("was 5", x, 2, 0, 3, 3, 3, 0, 1, -1, 0, 0, 0);
        Bakery.lineIs("in its order", x, 2, 0);
        for (int p = 0; p < 4; p++) {
            Check.same("place " + p, 1, x.place(p, 1));
            Check.same("baked as before", 2, x.place(p, 2));
        }
        Check.same("a new one", 3, x.addDough(0, 0, 1));
        Bakery.doughIs("as new", x, 3, 0, 0, 1, 0, 0, 0, -1, 2, 0, 0);
        BakeTurns y = ofABurntAndOneInTheOven();
        y.clearDoughs();
        Bakery.doughIs("with its own values alone", y, 0, 1, 1, 1, 2, 1, 1, 1, -1, 4, 0);
        Bakery.placeIs("and its own loaf", y, 2, y.whole(3), 0, 4, 0);
    }

    private static void clearDoughsIsUndoable() {
        BakeTurns x = ofAllStates();
        Bakery.undoable("clearDoughs", x, x::clearDoughs);
        Bakery.doughsAre("all again", x, 4, 2, 0, 3, 1, 2, 0);
        BakeTurns z = Bakery.ofTexts("kind 50 60 1 0 1;house;dough 0 0 1;pass 2;");
        Bakery.undoable("clearDoughs", z, z::clearDoughs);
        BakeTurns y = new BakeTurns();
        Bakery.undoable("nothing to clear away", y, y::clearDoughs);
    }

    private static void returnsHowManyAreLeft() {
        Check.same("no doughs", 0, new BakeTurns().clearDoughs());
        BakeTurns x = ofAllStates();
        Check.same("three of six", 3, x.clearDoughs());
        Check.same("all of three", 3, x.clearDoughs());
        x.pass(50);
        Check.same("none of three", 0, x.clearDoughs());
        BakeTurns y = Bakery.plain();
        Bakery.doughs(y, 16, 0, 0, 1);
        Check.same("16 of 16", 16, y.clearDoughs());
        y.pass(41);
        Check.same("none of 16", 0, y.clearDoughs());
    }

    // ---- promise 6

    private static BakeTurns waiting(int doughs) {
        BakeTurns x = Bakery.plain();
        Bakery.doughs(x, doughs, 0, 0, 1);
        return x;
    }

    private static void swapsPlaces() {
        BakeTurns x = waiting(4);
        x.swap(0, 3);
        Bakery.lineIs("the ends", x, 3, 1, 2, 0);
        x.swap(1, 2);
        Bakery.lineIs("neighbours", x, 3, 2, 1, 0);
        x.swap(1, 3);
        Bakery.lineIs("by numbers, not by places", x, 1, 2, 3, 0);
        x.swap(3, 1);
        Bakery.lineIs("and back", x, 3, 2, 1, 0);
    }

    private static void swapIsUndoable() {
        BakeTurns x = Bakery.ofTexts("kind 200 300 3 0 40;house;dough 0 0 1;dough 0 0 1;dough 0 0 1;");
        Bakery.undoable("swap", x, () -> x.swap(0, 2));
        Bakery.lineIs("as before", x, 0, 1, 2);
    }

    private static void firstToSwap() {
        BakeTurns x = waiting(3);
        Check.same("the last number", 0, x.swap(2, 0));
        Check.same("the first number", 0, x.swap(0, 2));
        for (int dough : new int[] {-1, 3, 16, FAR, FAR_BELOW}) {
            Check.outOfBounds("dough " + dough, x, () -> x.swap(dough, 0));
        }
    }

    private static void otherToSwap() {
        BakeTurns x = waiting(3);
        Check.same("the last number", 2, x.swap(0, 2));
        for (int other : new int[] {-1, 3, 16, FAR, FAR_BELOW}) {
            Check.outOfBounds("other " + other, x, () -> x.swap(0, other));
        }
        Check.badArgument("not another", x, () -> x.swap(1, 1));
    }

    private static void returnsThePlaceOfTheFirst() {
        BakeTurns x = waiting(16);
        Check.same("to the end", 15, x.swap(0, 15));
        Check.same("back to the front", 0, x.swap(0, 15));
        Check.same("to the front", 0, x.swap(9, 0));
        Check.same("where the other was", 9, x.swap(8, 0));
        for (int i = 0; i < 16; i++) {
            Check.same("as dough() tells it", i, x.dough(x.line(i), 7));
        }
    }

    private static void noSuchDoughToSwap() {
        BakeTurns x = new BakeTurns();
        Check.outOfBounds("no doughs", x, () -> x.swap(0, 1));
        Check.outOfBounds("no doughs, both the same", x, () -> x.swap(0, 0));
        BakeTurns y = waiting(2);
        Check.outOfBounds("the first", y, () -> y.swap(2, 1));
        Check.outOfBounds("the other", y, () -> y.swap(1, 2));
        Check.outOfBounds("the first", y, () -> y.swap(-1, 1));
        Check.outOfBounds("the other", y, () -> y.swap(1, -1));
        Check.outOfBounds("both the same", y, () -> y.swap(2, 2));
    }

    private static void bothAreTheSame() {
        BakeTurns x = waiting(2);
        Check.badArgument("0", x, () -> x.swap(0, 0));
        Check.badArgument("1", x, () -> x.swap(1, 1));
        x.stoke(0, 10);
        x.pass(1);
        Check.badArgument("0, which does not wait", x, () -> x.swap(0, 0));
    }

    private static void oneIsNotWaiting() {
        BakeTurns x = ofAllStates();
        for (int d : new int[] {0, 2, 3, 4}) {
            Check.badState("the first is in state " + x.dough(d, 4), x, () -> x.swap(d, 1));
            Check.badState("the other is in state " + x.dough(d, 4), x, () -> x.swap(1, d));
        }
        Check.badState("neither", x, () -> x.swap(0, 2));
        Check.same("both", 1, x.swap(1, 5));
    }

    // ---- promise 7

    private static BakeTurns twoHouseholds() {
        BakeTurns x = new BakeTurns();
        x.addHouse();
        x.addHouse();
        return x;
    }

    private static void bringsLogs() {
        BakeTurns x = twoHouseholds();
        x.bring(1, 7);
        x.bring(1, 8);
        x.bring(0, 2);
        Bakery.houseIs("has brought", x, 0, 2, 0, 0, 2);
        Bakery.houseIs("has brought", x, 1, 15, 0, 0, 15);
        Check.same("in all", 17, x.whole(10));
        Check.same("none is burnt", 0, x.whole(9));
        Check.same("none is unsettled", 0, x.whole(7));
    }

    private static void bringIsUndoable() {
        BakeTurns x = twoHouseholds();
        Bakery.undoable("bring", x, () -> x.bring(1, 7));
        Check.same("brought in all", 0, x.whole(10));
    }

    private static void householdThatBrings() {
        BakeTurns x = twoHouseholds();
        Check.same("the first", 1, x.bring(0, 1));
        Check.same("the last", 1, x.bring(1, 1));
        for (int house : new int[] {-1, 2, 8, FAR, FAR_BELOW}) {
            Check.outOfBounds("household " + house, x, () -> x.bring(house, 1));
        }
    }

    private static void logsToBring() {
        BakeTurns x = twoHouseholds();
        Check.same("the fewest", 1, x.bring(0, 1));
        Check.same("the most", 100, x.bring(0, 99));
        for (int logs : new int[] {0, 100, -1, FAR, FAR_BELOW}) {
            Check.badArgument(logs + " logs", x, () -> x.bring(0, logs));
        }
    }

    private static void returnsItsBalance() {
        BakeTurns x = twoHouseholds();
        x.stoke(0, 9);
        Check.same("below 0", -4, x.bring(0, 5));
        Check.same("0", 0, x.bring(0, 4));
        Check.same("above", 99, x.bring(0, 99));
        Check.same("of the one that brings", 3, x.bring(1, 3));
    }

    private static void noSuchHouseholdToBring() {
        BakeTurns none = new BakeTurns();
        Check.outOfBounds("no households", none, () -> none.bring(0, 1));
        BakeTurns x = twoHouseholds();
        Check.outOfBounds("2", x, () -> x.bring(2, 1));
        Check.outOfBounds("-1", x, () -> x.bring(-1, 1));
        Check.outOfBounds("2, and wrong logs", x, () -> x.bring(2, 0));
    }

    private static void wrongLogsToBring() {
        BakeTurns x = twoHouseholds();
        Check.badArgument("0", x, () -> x.bring(1, 0));
        Check.badArgument("100", x, () -> x.bring(1, 100));
        for (int i = 0; i < 10; i++) {
            x.bring(1, 99);
        }
        Check.badArgument("100, and more than 999", x, () -> x.bring(1, 100));
    }

    private static void balanceAbove999() {
        BakeTurns x = twoHouseholds();
        for (int i = 0; i < 10; i++) {
            x.bring(1, 99);
        }
        Check.badState("990 and 10", x, () -> x.bring(1, 10));
        Check.badState("990 and 99", x, () -> x.bring(1, 99));
        Check.same("990 and 9", 999, x.bring(1, 9));
        Check.badState("999 and 1", x, () -> x.bring(1, 1));
        x.stoke(1, 3);
        Check.badState("996 and 4", x, () -> x.bring(1, 4));
        Check.same("996 and 3", 999, x.bring(1, 3));
        Check.same("the other has less", 99, x.bring(0, 99));
        BakeTurns y = Bakery.with(0, new int[] {50, 400, 1, 0, 40});
        Check.same("bring", 9, Bakery.run(y, "bring 0 99;".repeat(9)));
        y.bring(0, 9);
        y.stoke(0, 16);
        y.bring(0, 16);
        y.addDough(1, 0, 1);
        y.pass(1);
        y.settle();
        Check.same("above 999 by settling", 1015, y.house(0, 0));
        Check.badState("it cannot bring", y, () -> y.bring(0, 1));
    }

    // ---- promise 8

    private static void stokesTheOven() {
        BakeTurns x = twoHouseholds();
        x.stoke(0, 2);
        x.stoke(1, 3);
        Check.same("heat", 125, x.whole(3));
        Bakery.houseIs("has stoked", x, 0, -2, 0, 2, 0);
        Bakery.houseIs("has stoked", x, 1, -3, 0, 3, 0);
        Check.same("burnt in all", 5, x.whole(9));
        Check.same("unsettled", 5, x.whole(7));
        Check.same("no tick passes", 0, x.whole(4));
    }

    private static void stokeIsUndoable() {
        BakeTurns x = twoHouseholds();
        Bakery.undoable("stoke", x, () -> x.stoke(1, 7));
        Check.same("heat", 0, x.whole(3));
        Check.same("burnt in all", 0, x.whole(9));
    }

    private static void householdThatStokes() {
        BakeTurns x = twoHouseholds();
        Check.same("the first", 25, x.stoke(0, 1));
        Check.same("the last", 50, x.stoke(1, 1));
        for (int house : new int[] {-1, 2, 8, FAR, FAR_BELOW}) {
            Check.outOfBounds("household " + house, x, () -> x.stoke(house, 1));
        }
    }

    private static void logsToStoke() {
        BakeTurns x = twoHouseholds();
        Check.same("the fewest", 25, x.stoke(0, 1));
        x.undo();
        Check.same("the most", 400, x.stoke(0, 16));
        x.undo();
        for (int logs : new int[] {0, 17, -1, FAR, FAR_BELOW}) {
            Check.badArgument(logs + " logs", x, () -> x.stoke(0, logs));
        }
    }

    private static void returnsTheHeat() {
        BakeTurns x = twoHouseholds();
        Check.same("all the heat", 150, x.stoke(0, 6));
        Check.same("all the heat", 175, x.stoke(1, 1));
        x.pass(3);
        Check.same("all the heat", 194, x.stoke(1, 1));
    }

    private static void noSuchHouseholdToStoke() {
        BakeTurns none = new BakeTurns();
        Check.outOfBounds("no households", none, () -> none.stoke(0, 1));
        BakeTurns x = twoHouseholds();
        Check.outOfBounds("2", x, () -> x.stoke(2, 1));
        Check.outOfBounds("-1", x, () -> x.stoke(-1, 1));
        Check.outOfBounds("2, and wrong logs", x, () -> x.stoke(2, 0));
        x.stoke(0, 16);
        Check.outOfBounds("2, and too hot", x, () -> x.stoke(2, 1));
    }

    private static void wrongLogsToStoke() {
        BakeTurns x = twoHouseholds();
        Check.badArgument("0", x, () -> x.stoke(1, 0));
        Check.badArgument("17", x, () -> x.stoke(1, 17));
        x.stoke(1, 16);
        Check.badArgument("17, and too hot", x, () -> x.stoke(1, 17));
    }

    private static void balanceBelow20OrHeatAbove400() {
        BakeTurns x = twoHouseholds();
        x.stoke(0, 15);
        Check.badState("375 and 2 logs", x, () -> x.stoke(1, 2));
        Check.same("375 and 1 log", 400, x.stoke(1, 1));
        Check.badState("400 and 1 log", x, () -> x.stoke(1, 1));
        x.pass(12);
        Check.badState("376 and 1 log", x, () -> x.stoke(1, 1));
        x.pass(1);
        Check.same("374 and 1 log", 399, x.stoke(1, 1));
        x.pass(100);
        Check.badState("-15 and 6 logs", x, () -> x.stoke(0, 6));
        Check.same("-15 and 5 logs", 199 + 125, x.stoke(0, 5));
        Check.badState("-20 and 1 log", x, () -> x.stoke(0, 1));
        Check.same("the other can", 349, x.stoke(1, 1));
        x.bring(0, 1);
        Check.badState("-19 and 2 logs", x, () -> x.stoke(0, 2));
        Check.same("-19 and 1 log", 374, x.stoke(0, 1));
        Check.badState("both", x, () -> x.stoke(0, 16));
        BakeTurns y = twoHouseholds();
        y.addKind(50, 400, 20, 0, 40);
        y.stoke(1, 16);
        y.addDough(0, 0, 1);
        y.pass(100);
        y.stoke(1, 4);
        y.stoke(0, 1);
        y.settle();
        Check.same("below -20 by settling", -21, y.house(0, 0));
        Check.badState("-21 and 1 log", y, () -> y.stoke(0, 1));
        y.bring(0, 2);
        Check.same("-19 and 1 log", y.whole(3) + 25, y.stoke(0, 1));
    }

    // ---- promise 9

    private static BakeTurns usedByTheSecond() {
        BakeTurns x = Bakery.heated(300);
        x.stoke(1, 2);
        x.addDough(1, 0, 2);
        x.pass(40);
        return x;
    }

    private static void settlesTheLogs() {
        BakeTurns x = usedByTheSecond();
        x.settle();
        Bakery.houseIs("has paid 12, owes none", x, 0, 99, 0, 0);
        Bakery.houseIs("has paid 2, owes 14", x, 1, 85, 0, 0);
        Check.same("unsettled", 0, x.whole(7));
        Check.same("use of all", 0, x.whole(8));
    }

    private static void settleIsUndoable() {
        BakeTurns x = Bakery.ofTexts("kind 200 300 3 0 40;house;house;stoke 0 10;dough 1 0 2;pass 9;");
        Bakery.undoable("settle", x, x::settle);
        Check.same("unsettled", 10, x.whole(7));
        Check.same("use of all", 6, x.whole(8));
        BakeTurns y = Bakery.ofTexts("house;stoke 0 10;pass 9;");
        Bakery.undoable("without use", y, y::settle);
    }

    private static void returnsTheLogsThatWereSettled() {
        BakeTurns x = usedByTheSecond();
        Check.same("all that were unsettled", 14, x.settle());
        x.addDough(0, 0, 1);
        x.pass(1);
        Check.same("none since then, though there is use", 0, x.settle());
        x.stoke(0, 1);
        x.pass(1);
        Check.same("one since then", 1, x.settle());
    }

    private static void returns0WithoutUse() {
        Check.same("a new object", 0, new BakeTurns().settle());
        BakeTurns x = Bakery.heated(300);
        Check.same("logs, but no use", 0, x.settle());
        x.pass(9);
        Check.same("ticks, but no use", 0, x.settle());
        Check.same("still unsettled", 12, x.whole(7));
    }

    // ---- promise 10

    private static void letsTicksPass() {
        BakeTurns x = Bakery.heated(300);
        x.addDough(0, 0, 4);
        x.addDough(0, 0, 4);
        x.pass(3);
        Check.same("ticks", 3, x.whole(4));
        Bakery.doughsAre("states", x, 4, 2, 1);
        BakeTurns y = Bakery.heated(300);
        y.addDough(0, 0, 4);
        y.addDough(0, 0, 4);
        y.pass(1);
        y.pass(1);
        y.pass(1);
        Check.same("as three passes of one tick", Bakery.hashOf(x, 0), Bakery.hashOf(y, 0));
    }

    private static void passIsUndoable() {
        BakeTurns x = Bakery.ofTexts("kind 200 300 3 0 40;house;stoke 0 12;dough 0 0 4;dough 0 0 4;");
        Bakery.undoable("pass", x, () -> x.pass(1));
        Bakery.undoable("pass", x, () -> x.pass(100));
        Check.same("no tick passed", 0, x.whole(4));
    }

    private static void ticksToPass() {
        BakeTurns x = new BakeTurns();
        x.pass(1);
        Check.same("the fewest", 1, x.whole(4));
        x.pass(100);
        Check.same("the most", 101, x.whole(4));
        for (int ticks : new int[] {0, 101, -1, FAR, FAR_BELOW}) {
            Check.badArgument(ticks + " ticks", x, () -> x.pass(ticks));
        }
    }

    private static void returnsHowManyWereTakenOut() {
        BakeTurns x = Bakery.heated(300);
        Bakery.doughs(x, 5, 0, 0, 2);
        Check.same("three ticks to bake", 0, x.pass(2));
        Check.same("the first", 1, x.pass(1));
        Check.same("the next two", 2, x.pass(2));
        Check.same("the others", 2, x.pass(100));
        Check.same("none", 0, x.pass(100));
        BakeTurns y = Bakery.with(400, new int[] {50, 400, 2, 0, 40}, new int[] {50, 400, 1, 0, 40});
        y.addDough(0, 0, 2);
        y.addDough(0, 1, 2);
        Check.same("none", 0, y.pass(1));
        Check.same("two in one tick", 2, y.pass(1));
        BakeTurns z = Bakery.with(0, new int[] {50, 60, 2, 0, 1});
        z.addDough(0, 0, 2);
        Check.same("spoiled ones do not count", 0, z.pass(9));
    }

    private static void wrongTicks() {
        BakeTurns x = new BakeTurns();
        Check.badArgument("0", x, () -> x.pass(0));
        Check.badArgument("101", x, () -> x.pass(101));
        Check.badArgument("-100", x, () -> x.pass(-100));
    }

    private static void moreThan100000Ticks() {
        BakeTurns x = new BakeTurns();
        Bakery.toTick(x, 99901);
        Check.badState("99901 and 100", x, () -> x.pass(100));
        Check.same("none of them passed", 99901, x.whole(4));
        x.pass(98);
        Check.badState("99999 and 2", x, () -> x.pass(2));
        x.pass(1);
        Check.same("99999 and 1", 100000, x.whole(4));
        Check.badState("100000 and 1", x, () -> x.pass(1));
        x.undo();
        x.undo();
        Check.same("99901", 99901, x.whole(4));
        x.pass(99);
        Check.same("99901 and 99", 100000, x.whole(4));
    }
}
