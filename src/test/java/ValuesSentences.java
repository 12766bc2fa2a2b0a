/** Promises 11 to 16: the values. */
final class ValuesSentences {
    private static final int FAR = Integer.MAX_VALUE;
    private static final int FAR_BELOW = Integer.MIN_VALUE;

    private ValuesSentences() {
    }

    static void all() {
        kinds();
        households();
        doughs();
        places();
        whole();
        line();
    }

    private static void kinds() {
        Sentence.section("Promise 11");
        Sentence.holds("Returns a value of a kind.", ValuesSentences::ofEachKind);
        Sentence.holds("`kind`: number of a kind", ValuesSentences::numbersOfKinds);
        Sentence.holds("`what`: 0 least heat, 1 greatest heat, 2 ticks to bake, 3 ticks to ripen, 4 ticks to keep",
            ValuesSentences::whatOfAKind);
        Sentence.holds("Returns that value.", ValuesSentences::valuesOfAKindStay);
        Sentence.holds("Throws `IndexOutOfBoundsException` if there is no such kind", ValuesSentences::noSuchKind);
        Sentence.holds("Throws `IllegalArgumentException` if what is out of range", ValuesSentences::wrongWhatOfAKind);
    }

    private static void households() {
        Sentence.section("Promise 12");
        Sentence.holds("Returns a value of a household.", ValuesSentences::ofEachHousehold);
        Sentence.holds("`house`: number of a household", ValuesSentences::numbersOfHouseholds);
        Sentence.holds("`what`: 0 balance,", ValuesSentences::balance);
        Sentence.holds("1 use,", ValuesSentences::use);
        Sentence.holds("2 logs paid, each since the last settling,", ValuesSentences::logsPaid);
        Sentence.holds("3 logs brought, in all,", ValuesSentences::logsBrought);
        Sentence.holds("4 number of its doughs, of any state,", ValuesSentences::numberOfItsDoughs);
        Sentence.holds("5 loaves that were done, in all,", ValuesSentences::loavesDone);
        Sentence.holds("6 of these those that were burnt", ValuesSentences::loavesBurnt);
        Sentence.holds("Returns that value.", ValuesSentences::valuesOfAHouseholdStay);
        Sentence.holds("Throws `IndexOutOfBoundsException` if there is no such household", ValuesSentences::noSuchHousehold);
        Sentence.holds("Throws `IllegalArgumentException` if what is out of range", ValuesSentences::wrongWhatOfAHousehold);
    }

    private static void doughs() {
        Sentence.section("Promise 13");
        Sentence.holds("Returns a value of a dough.", ValuesSentences::ofEachDough);
        Sentence.holds("`dough`: number of a dough", ValuesSentences::numbersOfDoughs);
        Sentence.holds("`what`: 0 household, 1 kind, 2 loaves, 3 age, 4 state,", ValuesSentences::whatADoughIs);
        Sentence.holds("5 its reason (0 before any),", ValuesSentences::reason);
        Sentence.holds("6 tick in which it was loaded (NONE if it was not),", ValuesSentences::tickOfLoading);
        Sentence.holds("7 place in the line, from 0 (NONE if it does not wait),", ValuesSentences::placeInTheLine);
        Sentence.holds("8 set of its places, bit p for the place p (0 if it is not in the oven),", ValuesSentences::setOfPlaces);
        Sentence.holds("9 burnt loaves (those that were counted)", ValuesSentences::burntLoaves);
        Sentence.holds("Returns that value.", ValuesSentences::valuesOfADoughStay);
        Sentence.holds("Throws `IndexOutOfBoundsException` if there is no such dough", ValuesSentences::noSuchDough);
        Sentence.holds("Throws `IllegalArgumentException` if what is out of range", ValuesSentences::wrongWhatOfADough);
    }

    private static void places() {
        Sentence.section("Promise 14");
        Sentence.holds("Returns a value of a place.", ValuesSentences::ofEachPlace);
        Sentence.holds("`place`: 0 to 11", ValuesSentences::numbersOfPlaces);
        Sentence.holds("`what`: 0 its heat,", ValuesSentences::heatOfAPlace);
        Sentence.holds("1 the dough of its loaf (NONE if it is free),", ValuesSentences::doughOfItsLoaf);
        Sentence.holds("2 ticks for which that loaf was baked (NONE if it is free),", ValuesSentences::bakedTicks);
        Sentence.holds("3 ticks for which it was scorched (NONE likewise)", ValuesSentences::scorchedTicks);
        Sentence.holds("Returns that value.", ValuesSentences::valuesOfAPlaceStay);
        Sentence.holds("Throws `IndexOutOfBoundsException` if there is no such place", ValuesSentences::noSuchPlace);
        Sentence.holds("Throws `IllegalArgumentException` if what is out of range", ValuesSentences::wrongWhatOfAPlace);
    }

    private static void whole() {
        Sentence.section("Promise 15");
        Sentence.holds("Returns a value of the whole.", ValuesSentences::wholeOfANewObject);
        Sentence.holds("`what`: 0 kinds, 1 households, 2 doughs, 3 heat, 4 ticks, 5 doughs in the line, 6 free places,",
            ValuesSentences::whatThereIs);
        Sentence.holds("7 unsettled logs, 8 use of all since the last settling,", ValuesSentences::sinceTheLastSettling);
        Sentence.holds("9 logs burnt, in all, 10 logs brought, in all, 11 openings, in all, 12 loaves that were done, in all, "
            + "13 doughs that were spoiled, in all,", ValuesSentences::countedInAll);
        Sentence.holds("14 length of the command text", ValuesSentences::lengthOfTheText);
        Sentence.holds("Returns that value.", ValuesSentences::valuesOfTheWholeStay);
        Sentence.holds("Throws `IllegalArgumentException` if what is out of range", ValuesSentences::wrongWhatOfTheWhole);
    }

    private static void line() {
        Sentence.section("Promise 16");
        Sentence.holds("Returns the dough at a place in the line.", ValuesSentences::doughsOfTheLine);
        Sentence.holds("`index`: 0 for the front, and so on", ValuesSentences::fromTheFront);
        Sentence.holds("Returns the dough; NONE if there are not so many.", ValuesSentences::noneBehindTheLine);
        Sentence.holds("Throws `IllegalArgumentException` if index is negative", ValuesSentences::negativeIndex);
    }

    /** Doughs 0 to 3: done, spoiled, done, in the oven; at 325, 317, 310, 304. */
    private static BakeTurns busy() {
        BakeTurns x = Bakery.with(300, new int[] {201, 302, 3, 0, 35}, new int[] {350, 400, 6, 1, 2});
        x.addDough(0, 0, 4);
        x.addDough(1, 1, 1);
        x.addDough(1, 0, 2);
        x.addDough(1, 0, 3);
        x.stoke(1, 1);
        x.pass(4);
        return x;
    }

    // ---- promise 11

    private static void ofEachKind() {
        BakeTurns x = new BakeTurns();
        for (int k = 0; k < 5; k++) {
            x.addKind(100 + k, 200 + k, 5 + k, 10 + k, 20 + k);
        }
        int[] base = {100, 200, 5, 10, 20};
        for (int k = 0; k < 5; k++) {
            for (int what = 0; what < 5; what++) {
                Check.same("kind(" + k + ", " + what + ")", base[what] + k, x.kind(k, what));
            }
        }
    }

    private static void numbersOfKinds() {
        BakeTurns x = busy();
        Check.same("the first", 201, x.kind(0, 0));
        Check.same("the last", 350, x.kind(1, 0));
        for (int kind : new int[] {-1, 2, 4, 5, FAR, FAR_BELOW}) {
            Check.outOfBounds("kind " + kind, x, () -> x.kind(kind, 0));
        }
    }

    private static void whatOfAKind() {
        BakeTurns x = busy();
        Check.same("least heat", 201, x.kind(0, 0));
        Check.same("greatest heat", 302, x.kind(0, 1));
        Check.same("ticks to bake", 3, x.kind(0, 2));
        Check.same("ticks to ripen", 0, x.kind(0, 3));
        Check.same("ticks to keep", 35, x.kind(0, 4));
        for (int what : new int[] {-1, 5, FAR, FAR_BELOW}) {
            Check.badArgument("what " + what, x, () -> x.kind(0, what));
        }
    }

    private static void valuesOfAKindStay() {
        BakeTurns x = busy();
        x.pass(100);
        x.clearDoughs();
        x.settle();
        int[] due = {350, 400, 6, 1, 2};
        for (int what = 0; what < 5; what++) {
            Check.same("value " + what, due[what], x.kind(1, what));
            Check.same("asked again", due[what], x.kind(1, what));
        }
    }

    private static void noSuchKind() {
        BakeTurns x = new BakeTurns();
        Check.outOfBounds("none", x, () -> x.kind(0, 0));
        x.addKind(50, 60, 1, 0, 1);
        Check.outOfBounds("1", x, () -> x.kind(1, 0));
        Check.outOfBounds("-1", x, () -> x.kind(-1, 0));
        Check.outOfBounds("1, and wrong what", x, () -> x.kind(1, 5));
        x.undo();
        Check.outOfBounds("undone", x, () -> x.kind(0, 0));
    }

    private static void wrongWhatOfAKind() {
        BakeTurns x = busy();
        Check.badArgument("-1", x, () -> x.kind(1, -1));
        Check.badArgument("5", x, () -> x.kind(1, 5));
    }

    // ---- promise 12

    private static void ofEachHousehold() {
        BakeTurns x = new BakeTurns();
        for (int h = 0; h < 8; h++) {
            x.addHouse();
            x.bring(h, 10 + h);
        }
        for (int h = 0; h < 8; h++) {
            Bakery.houseIs("household", x, h, 10 + h, 0, 0, 10 + h, 0, 0, 0);
        }
    }

    private static void numbersOfHouseholds() {
        BakeTurns x = busy();
        Check.same("the first", 12, x.house(0, 2));
        Check.same("the last", 1, x.house(1, 2));
        for (int house : new int[] {-1, 2, 7, 8, FAR, FAR_BELOW}) {
            Check.outOfBounds("household " + house, x, () -> x.house(house, 0));
        }
    }

    private static void balance() {
        BakeTurns x = Bakery.plain();
        x.stoke(0, 9);
        Check.same("99 and 9 less", 90, x.house(0, 0));
        Check.same("99", 99, x.house(1, 0));
        BakeTurns y = new BakeTurns();
        y.addHouse();
        y.stoke(0, 9);
        Check.same("below 0", -9, y.house(0, 0));
    }

    private static void use() {
        BakeTurns x = Bakery.heated(300);
        x.addDough(1, 0, 4);
        x.pass(2);
        Check.same("4 loaves, 2 ticks", 8, x.house(1, 1));
        Check.same("none", 0, x.house(0, 1));
        x.settle();
        Check.same("settled", 0, x.house(1, 1));
        x.pass(1);
        Check.same("since then", 4, x.house(1, 1));
        x.clearDoughs();
        Check.same("clearing changes nothing in it", 4, x.house(1, 1));
    }

    private static void logsPaid() {
        BakeTurns x = Bakery.heated(300);
        x.stoke(1, 1);
        x.stoke(0, 2);
        Check.same("paid", 14, x.house(0, 2));
        Check.same("paid", 1, x.house(1, 2));
        x.settle();
        Check.same("no use, not settled", 14, x.house(0, 2));
        x.addDough(0, 0, 1);
        x.pass(60);
        x.settle();
        Check.same("settled", 0, x.house(0, 2));
        x.stoke(0, 1);
        Check.same("since then", 1, x.house(0, 2));
    }

    private static void logsBrought() {
        BakeTurns x = Bakery.heated(300);
        x.bring(0, 5);
        x.addDough(0, 0, 1);
        x.pass(1);
        x.settle();
        Check.same("settling and stoking change nothing in it", 104, x.house(0, 3));
        Check.same("99", 99, x.house(1, 3));
    }

    private static void numberOfItsDoughs() {
        BakeTurns x = Bakery.with(300, new int[] {200, 300, 1, 0, 40}, new int[] {200, 300, 20, 0, 40},
            new int[] {350, 400, 1, 0, 1}, new int[] {350, 400, 1, 0, 40});
        for (int kind = 0; kind < 4; kind++) {
            x.addDough(1, kind, 1);
        }
        x.addDough(0, 3, 1);
        Check.same("all wait", 4, x.house(1, 4));
        x.pass(2);
        Bakery.doughsAre("one of each state", x, 4, 2, 1, 3, 0, 0);
        Check.same("of any state", 4, x.house(1, 4));
        Check.same("the other", 1, x.house(0, 4));
        x.clearDoughs();
        Check.same("what is cleared away is no more", 2, x.house(1, 4));
        Check.same("the other", 1, x.house(0, 4));
    }

    private static void loavesDone() {
        BakeTurns x = Bakery.heated(300);
        x.addDough(0, 0, 4);
        x.addDough(1, 0, 3);
        x.addDough(0, 0, 2);
        x.pass(2);
        Check.same("none yet", 0, x.house(0, 5));
        x.pass(1);
        Check.same("4", 4, x.house(0, 5));
        Check.same("none yet", 0, x.house(1, 5));
        x.pass(2);
        Check.same("4 and 2", 6, x.house(0, 5));
        Check.same("3", 3, x.house(1, 5));
        x.settle();
        x.clearDoughs();
        Check.same("in all", 6, x.house(0, 5));
        BakeTurns y = Bakery.with(300, new int[] {200, 301, 5, 0, 40});
        y.addDough(1, 0, 3);
        y.pass(1);
        y.stoke(0, 4);
        y.pass(4);
        Check.same("burnt ones too", 3, y.house(1, 6));
        Check.same("burnt ones too", 3, y.house(1, 5));
    }

    private static void loavesBurnt() {
        BakeTurns x = Bakery.with(300, new int[] {200, 301, 5, 0, 40});
        x.addDough(1, 0, 3);
        x.pass(1);
        x.stoke(0, 4);
        x.pass(3);
        Check.same("not done yet", 0, x.house(1, 6));
        x.pass(1);
        Check.same("3", 3, x.house(1, 6));
        Check.same("burnt ones are done as well", 3, x.house(1, 5));
        Check.same("the other", 0, x.house(0, 6));
        x.pass(30);
        x.addDough(1, 0, 1);
        x.pass(5);
        x.settle();
        x.clearDoughs();
        Check.same("in all", 3, x.house(1, 6));
        Check.same("done, of which one is not burnt", 4, x.house(1, 5));
    }

    private static void valuesOfAHouseholdStay() {
        BakeTurns x = busy();
        for (int what = 0; what < 7; what++) {
            Check.same("asked again", x.house(1, what), x.house(1, what));
        }
        x.addHouse();
        x.stoke(2, 1);
        Bakery.houseIs("the others stay", x, 0, 87, 12, 12, 99, 1, 4, 0);
        Bakery.houseIs("the others stay", x, 1, 98, 2 + 2 + 2 + 3, 1, 99, 3, 2, 0);
    }

    private static void noSuchHousehold() {
        BakeTurns x = new BakeTurns();
        Check.outOfBounds("none", x, () -> x.house(0, 0));
        x.addHouse();
        Check.outOfBounds("1", x, () -> x.house(1, 0));
        Check.outOfBounds("-1", x, () -> x.house(-1, 0));
        Check.outOfBounds("1, and wrong what", x, () -> x.house(1, 7));
        x.undo();
        Check.outOfBounds("undone", x, () -> x.house(0, 0));
    }

    private static void wrongWhatOfAHousehold() {
        BakeTurns x = busy();
        for (int what : new int[] {-1, 7, FAR, FAR_BELOW}) {
            Check.badArgument("what " + what, x, () -> x.house(1, what));
        }
    }

    // ---- promise 13

    private static void ofEachDough() {
        BakeTurns x = busy();
        Bakery.doughIs("done", x, 0, 0, 0, 4, 1, 2, 0, 0, -1, 0, 0);
        Bakery.doughIs("spoiled", x, 1, 1, 1, 1, 4, 3, 4, -1, -1, 0, 0);
        Bakery.doughIs("done", x, 2, 1, 0, 2, 2, 2, 1, 1, -1, 0, 0);
        Bakery.doughIs("in the oven", x, 3, 1, 0, 3, 4, 1, 5, 3, -1, 0x1C0, 0);
    }

    private static void numbersOfDoughs() {
        BakeTurns x = busy();
        Check.same("the first", 4, x.dough(0, 2));
        Check.same("the last", 3, x.dough(3, 2));
        for (int dough : new int[] {-1, 4, 15, 16, FAR, FAR_BELOW}) {
            Check.outOfBounds("dough " + dough, x, () -> x.dough(dough, 0));
        }
        x.clearDoughs();
        Check.outOfBounds("cleared away", x, () -> x.dough(3, 0));
    }

    private static void whatADoughIs() {
        BakeTurns x = busy();
        int[] due = {1, 1, 1, 4, 3};
        for (int what = 0; what < 5; what++) {
            Check.same("value " + what, due[what], x.dough(1, what));
        }
        for (int what : new int[] {-1, 10, FAR, FAR_BELOW}) {
            Check.badArgument("what " + what, x, () -> x.dough(1, what));
        }
    }

    private static void reason() {
        BakeTurns x = Bakery.plain();
        x.addDough(0, 0, 1);
        Check.same("before any", 0, x.dough(0, 5));
        Check.same("though reason() tells one", 4, x.reason(0));
        x.pass(1);
        Check.same("too cold", 4, x.dough(0, 5));
        x.stoke(0, 8);
        Check.same("that of the last tick", 4, x.dough(0, 5));
        Check.same("though reason() tells none", 0, x.reason(0));
        x.pass(1);
        Check.same("it stays when it is loaded", 4, x.dough(0, 5));
    }

    private static void tickOfLoading() {
        BakeTurns x = Bakery.with(300, new int[] {200, 300, 1, 0, 40}, new int[] {350, 400, 1, 0, 1});
        x.addDough(0, 0, 1);
        x.addDough(0, 1, 1);
        Bakery.doughsAre("both wait", x, 6, -1, -1);
        x.pass(1);
        Bakery.doughsAre("one is loaded in tick 0", x, 6, 0, -1);
        x.pass(5);
        Bakery.doughsAre("the other is spoiled", x, 6, 0, -1);
        x.addDough(0, 0, 1);
        x.pass(5);
        Check.same("loaded in tick 6", 6, x.dough(2, 6));
        BakeTurns y = new BakeTurns();
        Bakery.toTick(y, 99999);
        y.addKind(50, 400, 1, 0, 40);
        y.addHouse();
        y.stoke(0, 9);
        y.addDough(0, 0, 1);
        y.pass(1);
        Check.same("the last tick of all", 99999, y.dough(0, 6));
    }

    private static void placeInTheLine() {
        BakeTurns x = Bakery.with(300, new int[] {200, 300, 2, 0, 40}, new int[] {350, 400, 1, 0, 1});
        x.addDough(0, 0, 1);
        x.addDough(0, 1, 1);
        x.addDough(0, 0, 1);
        Bakery.doughsAre("all wait", x, 7, 0, 1, 2);
        x.swap(1, 2);
        Bakery.doughsAre("swapped", x, 7, 0, 2, 1);
        x.pass(1);
        Bakery.doughsAre("one is in the oven", x, 7, -1, 1, 0);
        x.pass(1);
        Bakery.doughsAre("done, spoiled, in the oven", x, 7, -1, -1, -1);
        Bakery.doughsAre("done, spoiled, in the oven", x, 4, 2, 3, 1);
        BakeTurns y = Bakery.plain();
        Bakery.doughs(y, 16, 0, 0, 1);
        Check.same("the last of a full line", 15, y.dough(15, 7));
    }

    private static void setOfPlaces() {
        BakeTurns x = Bakery.with(400, new int[] {50, 400, 4, 0, 40});
        Bakery.doughs(x, 4, 0, 0, 4);
        Bakery.doughsAre("all wait", x, 8, 0, 0, 0, 0);
        x.pass(3);
        Bakery.doughsAre("all twelve places", x, 8, 0xF, 0xF0, 0xF00, 0);
        x.pass(1);
        Bakery.doughsAre("the first is done", x, 8, 0, 0xF0, 0xF00, 0);
        x.pass(1);
        Bakery.doughsAre("its places are taken anew", x, 8, 0, 0, 0xF00, 0xF);
        BakeTurns y = Bakery.with(0, new int[] {50, 60, 1, 0, 1});
        y.addDough(0, 0, 1);
        y.pass(2);
        Check.same("spoiled", 0, y.dough(0, 8));
    }

    private static void burntLoaves() {
        BakeTurns x = Bakery.with(300, new int[] {200, 301, 6, 0, 40});
        x.addDough(0, 0, 3);
        Check.same("waits", 0, x.dough(0, 9));
        x.pass(1);
        x.stoke(0, 4);
        x.pass(4);
        Check.same("scorched for 4 ticks", 4, x.place(0, 3));
        Check.same("but not counted yet", 0, x.dough(0, 9));
        x.pass(1);
        Check.same("counted", 3, x.dough(0, 9));
        x.pass(9);
        Check.same("for good", 3, x.dough(0, 9));
    }

    private static void valuesOfADoughStay() {
        BakeTurns x = busy();
        for (int d = 0; d < 4; d++) {
            for (int what = 0; what < 10; what++) {
                Check.same("asked again", x.dough(d, what), x.dough(d, what));
            }
        }
        x.pass(100);
        Bakery.doughIs("done", x, 0, 0, 0, 4, 1, 2, 0, 0, -1, 0, 0);
        Bakery.doughIs("spoiled", x, 1, 1, 1, 1, 4, 3, 4, -1, -1, 0, 0);
    }

    private static void noSuchDough() {
        BakeTurns x = Bakery.plain();
        Check.outOfBounds("none", x, () -> x.dough(0, 0));
        x.addDough(0, 0, 1);
        Check.outOfBounds("1", x, () -> x.dough(1, 0));
        Check.outOfBounds("-1", x, () -> x.dough(-1, 0));
        Check.outOfBounds("1, and wrong what", x, () -> x.dough(1, 10));
        x.undo();
        Check.outOfBounds("undone", x, () -> x.dough(0, 0));
    }

    private static void wrongWhatOfADough() {
        BakeTurns x = busy();
        Check.badArgument("-1", x, () -> x.dough(3, -1));
        Check.badArgument("10", x, () -> x.dough(3, 10));
    }

    // ---- promise 14

    private static void ofEachPlace() {
        BakeTurns x = Bakery.with(400, new int[] {50, 400, 20, 0, 40});
        Bakery.doughs(x, 6, 0, 0, 2);
        x.pass(6);
        for (int p = 0; p < 12; p++) {
            Bakery.placeIs("place", x, p, 400 - 6 * 7 - 20 * (p / 4), p / 2, 6 - p / 2, 0);
        }
    }

    private static void numbersOfPlaces() {
        BakeTurns x = Bakery.heated(300);
        Check.same("the first", 300, x.place(0, 0));
        Check.same("the last", 260, x.place(11, 0));
        for (int place : new int[] {-1, 12, 16, FAR, FAR_BELOW}) {
            Check.outOfBounds("place " + place, x, () -> x.place(place, 0));
        }
    }

    private static void heatOfAPlace() {
        BakeTurns x = Bakery.heated(50);
        x.pass(10);
        Check.same("band 0", 30, x.place(3, 0));
        Check.same("band 1", 10, x.place(4, 0));
        Check.same("band 2, at least 0", 0, x.place(8, 0));
        x.stoke(0, 14);
        Check.same("band 0", 380, x.place(0, 0));
        Check.same("band 1", 360, x.place(7, 0));
        Check.same("band 2", 340, x.place(11, 0));
    }

    private static void doughOfItsLoaf() {
        BakeTurns x = Bakery.heated(300);
        Check.same("free", -1, x.place(0, 1));
        x.addDough(0, 0, 2);
        x.addDough(1, 0, 1);
        Check.same("still free", -1, x.place(0, 1));
        x.pass(2);
        int[] due = {0, 0, 1, -1};
        for (int p = 0; p < 4; p++) {
            Check.same("dough on place " + p, due[p], x.place(p, 1));
        }
        x.pass(1);
        Check.same("free again", -1, x.place(0, 1));
        x.clearDoughs();
        Check.same("by its new number", 0, x.place(2, 1));
    }

    private static void bakedTicks() {
        BakeTurns x = Bakery.with(300, new int[] {200, 300, 3, 0, 40});
        Check.same("free", -1, x.place(0, 2));
        x.addDough(0, 0, 2);
        x.pass(1);
        Check.same("one tick", 1, x.place(1, 2));
        x.pass(1);
        Check.same("two ticks", 2, x.place(1, 2));
        x.pass(1);
        Check.same("free again", -1, x.place(1, 2));
        x.addDough(0, 0, 1);
        x.pass(1);
        Check.same("a new loaf", 1, x.place(0, 2));
        BakeTurns y = Bakery.with(50, new int[] {50, 60, 3, 0, 40});
        y.addDough(0, 0, 1);
        y.pass(9);
        Check.same("too cold but for the first tick", 1, y.place(0, 2));
    }

    private static void scorchedTicks() {
        BakeTurns x = Bakery.with(300, new int[] {200, 300, 9, 0, 40});
        Check.same("free", -1, x.place(0, 3));
        x.addDough(0, 0, 2);
        x.pass(2);
        Check.same("not scorched", 0, x.place(0, 3));
        x.stoke(0, 4);
        x.pass(5);
        Check.same("five ticks", 5, x.place(1, 3));
        x.pass(2);
        Check.same("free again", -1, x.place(1, 3));
        x.pass(50);
        x.addDough(0, 0, 1);
        x.pass(1);
        Check.same("a new loaf", 0, x.place(0, 3));
    }

    private static void valuesOfAPlaceStay() {
        BakeTurns x = busy();
        for (int p = 0; p < 12; p++) {
            for (int what = 0; what < 4; what++) {
                Check.same("asked again", x.place(p, what), x.place(p, what));
            }
        }
    }

    private static void noSuchPlace() {
        BakeTurns x = new BakeTurns();
        Check.outOfBounds("-1", x, () -> x.place(-1, 1));
        Check.outOfBounds("12", x, () -> x.place(12, 1));
        Check.outOfBounds("12, and wrong what", x, () -> x.place(12, 4));
    }

    private static void wrongWhatOfAPlace() {
        BakeTurns x = Bakery.with(400, new int[] {50, 400, 20, 0, 40});
        x.addDough(0, 0, 1);
        x.pass(1);
        for (int what : new int[] {-1, 4, FAR, FAR_BELOW}) {
            Check.badArgument("with a loaf: " + what, x, () -> x.place(0, what));
            Check.badArgument("free: " + what, x, () -> x.place(1, what));
        }
    }

    // ---- promise 15

    private static void wholeOfANewObject() {
        Bakery.wholeIs("new", new BakeTurns(), 0, 0, 0, 0, 0, 0, 12, 0, 0, 0, 0, 0, 0, 0, 0);
    }

    private static void whatThereIs() {
        BakeTurns x = Bakery.with(300, new int[] {200, 300, 2, 0, 40}, new int[] {350, 400, 1, 0, 1},
            new int[] {200, 300, 5, 0, 40});
        x.addDough(0, 0, 4);
        x.addDough(0, 1, 1);
        x.addDough(0, 2, 3);
        Bakery.wholeIs("cold", x, 3, 2, 3, 300, 0, 3, 12);
        x.pass(1);
        Bakery.wholeIs("one in the oven", x, 3, 2, 3, 292, 1, 2, 8);
        x.pass(1);
        Bakery.wholeIs("done, spoiled, and one in the oven", x, 3, 2, 3, 281, 2, 0, 9);
        x.clearDoughs();
        Bakery.wholeIs("cleared", x, 3, 2, 1, 281, 2, 0, 9);
    }

    private static void sinceTheLastSettling() {
        BakeTurns x = Bakery.heated(300);
        x.addDough(0, 0, 3);
        x.addDough(1, 0, 2);
        x.pass(2);
        Check.same("unsettled", 12, x.whole(7));
        Check.same("use of all", 3 + 5, x.whole(8));
        x.settle();
        Check.same("unsettled", 0, x.whole(7));
        Check.same("use of all", 0, x.whole(8));
        x.stoke(1, 1);
        x.pass(1);
        Check.same("unsettled", 1, x.whole(7));
        Check.same("use of all", 5, x.whole(8));
    }

    private static void countedInAll() {
        BakeTurns x = Bakery.with(300, new int[] {200, 300, 2, 0, 40}, new int[] {350, 400, 1, 0, 1});
        x.addDough(0, 0, 4);
        x.addDough(1, 0, 3);
        x.addDough(1, 1, 3);
        x.addDough(0, 1, 1);
        x.pass(3);
        int[] due = {12, 198, 4, 7, 2};
        for (int what = 9; what <= 13; what++) {
            Check.same("whole(" + what + ")", due[what - 9], x.whole(what));
        }
        x.settle();
        x.clearDoughs();
        for (int what = 9; what <= 13; what++) {
            Check.same("neither settled nor cleared away: whole(" + what + ")", due[what - 9], x.whole(what));
        }
        x.bring(1, 5);
        x.stoke(1, 1);
        x.addDough(0, 0, 1);
        x.pass(2);
        int[] then = {13, 203, 6, 8, 2};
        for (int what = 9; what <= 13; what++) {
            Check.same("whole(" + what + ")", then[what - 9], x.whole(what));
        }
    }

    private static void lengthOfTheText() {
        BakeTurns x = new BakeTurns();
        Bakery.text(x, "house;");
        Check.same("length", 6, x.whole(14));
        x.runCommands();
        Check.same("it stays", 6, x.whole(14));
        x.undo();
        Check.same("it stays", 6, x.whole(14));
        x.clearCommands();
        Check.same("empty", 0, x.whole(14));
        Bakery.text(x, "x".repeat(150));
        Check.same("full", 150, x.whole(14));
    }

    private static void valuesOfTheWholeStay() {
        BakeTurns x = busy();
        for (int what = 0; what < 15; what++) {
            Check.same("asked again", x.whole(what), x.whole(what));
        }
    }

    private static void wrongWhatOfTheWhole() {
        BakeTurns x = busy();
        for (int what : new int[] {-1, 15, FAR, FAR_BELOW}) {
            Check.badArgument("what " + what, x, () -> x.whole(what));
        }
    }

    // ---- promise 16

    private static void doughsOfTheLine() {
        BakeTurns x = Bakery.heated(300);
        Bakery.doughs(x, 3, 0, 0, 1);
        x.swap(0, 1);
        Check.same("first", 1, x.line(0));
        Check.same("second", 0, x.line(1));
        Check.same("third", 2, x.line(2));
        x.pass(1);
        Check.same("first", 0, x.line(0));
        Check.same("second", 2, x.line(1));
        Check.same("none", -1, x.line(2));
    }

    private static void fromTheFront() {
        BakeTurns x = Bakery.plain();
        Bakery.doughs(x, 16, 0, 0, 1);
        for (int i = 0; i < 16; i++) {
            Check.same("index " + i, i, x.line(i));
        }
    }

    private static void noneBehindTheLine() {
        BakeTurns x = Bakery.plain();
        Check.same("an empty line", -1, x.line(0));
        x.addDough(0, 0, 1);
        Check.same("one", 0, x.line(0));
        Check.same("behind it", -1, x.line(1));
        Bakery.doughs(x, 15, 0, 0, 1);
        for (int index : new int[] {16, 17, 1000, FAR}) {
            Check.same("behind a full line: " + index, -1, x.line(index));
        }
        x.pass(41);
        for (int i = 0; i < 16; i++) {
            Check.same("all spoiled", -1, x.line(i));
        }
    }

    private static void negativeIndex() {
        BakeTurns x = busy();
        Check.badArgument("-1", x, () -> x.line(-1));
        Check.badArgument("far below", x, () -> x.line(FAR_BELOW));
    }
}
