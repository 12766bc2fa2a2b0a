/** Promises 17 to 22: what if, which changes nothing. */
final class WhatIfSentences {
    private static final int FAR = Integer.MAX_VALUE;
    private static final int FAR_BELOW = Integer.MIN_VALUE;
    private static final int[] STAYS = {50, 400, 20, 0, 40};

    private WhatIfSentences() {
    }

    static void all() {
        reasons();
        loading();
        needing();
        heating();
        spoiling();
        owing();
    }

    private static void reasons() {
        Sentence.section("Promise 17");
        Sentence.holds("Tells why a dough could not be loaded now, by its age, the heat and the places as they are, if it alone "
            + "was looked at.", WhatIfSentences::asThingsAreNow);
        Sentence.holds("`dough`: number of a dough", () -> doughsOf(BakeTurns::reason));
        Sentence.holds("Returns 2 to 5 as above;", WhatIfSentences::reasons2To5);
        Sentence.holds("0 if it could;", WhatIfSentences::reason0);
        Sentence.holds("NONE if it does not wait.", () -> noneOfThoseThatDoNotWait(BakeTurns::reason));
        Sentence.holds("Throws `IndexOutOfBoundsException` if there is no such dough", () -> noSuchDough(BakeTurns::reason));
    }

    private static void loading() {
        Sentence.section("Promise 18");
        Sentence.holds("Tells after how many ticks a dough would be loaded, if nothing but ticks passed",
            WhatIfSentences::loadedInSoManyTicks);
        Sentence.holds("(here and below also beyond 100000 ticks).", WhatIfSentences::beyond100000Ticks);
        Sentence.holds("`dough`: number of a dough", () -> doughsOf(BakeTurns::loadedIn));
        Sentence.holds("Returns the ticks, 1 to 60, the one in which it is loaded counted;", WhatIfSentences::loadedIn1To60);
        Sentence.holds("NONE if it does not wait,", () -> noneOfThoseThatDoNotWait(BakeTurns::loadedIn));
        Sentence.holds("or would not be loaded in 60 ticks.", WhatIfSentences::notLoadedIn60);
        Sentence.holds("Throws `IndexOutOfBoundsException` if there is no such dough", () -> noSuchDough(BakeTurns::loadedIn));
    }

    private static void needing() {
        Sentence.section("Promise 19");
        Sentence.holds("Returns the fewest logs with which the oven would have to be stoked now so that a dough could be loaded "
            + "now, as for reason().", WhatIfSentences::fewestLogs);
        Sentence.holds("`dough`: number of a dough", () -> doughsOf(BakeTurns::neededLogs));
        Sentence.holds("Returns the logs, 0 to 16;", WhatIfSentences::logs0To16);
        Sentence.holds("NONE if it does not wait,", () -> noneOfThoseThatDoNotWait(BakeTurns::neededLogs));
        Sentence.holds("or there is no such number with which the heat is at most 400.", WhatIfSentences::noSuchNumberUpTo400);
        Sentence.holds("Throws `IndexOutOfBoundsException` if there is no such dough", () -> noSuchDough(BakeTurns::neededLogs));
    }

    private static void heating() {
        Sentence.section("Promise 20");
        Sentence.holds("Returns the heat that the oven would have after some ticks, if nothing but ticks passed.",
            WhatIfSentences::heatAfterSomeTicks);
        Sentence.holds("`ticks`: 0 to 100", () -> ticks0To100(BakeTurns::heatIn));
        Sentence.holds("Returns the heat.", WhatIfSentences::heatAtBothEnds);
        Sentence.holds("Throws `IllegalArgumentException` if ticks is out of range", () -> wrongTicks(BakeTurns::heatIn));
    }

    private static void spoiling() {
        Sentence.section("Promise 21");
        Sentence.holds("Tells which doughs would be spoiled after some ticks that wait now, if nothing but ticks passed.",
            WhatIfSentences::spoiledOfThoseThatWaitNow);
        Sentence.holds("`ticks`: 0 to 100", () -> ticks0To100(BakeTurns::spoiledIn));
        Sentence.holds("Returns the set, bit d for the dough d.", WhatIfSentences::setOfDoughs);
        Sentence.holds("Throws `IllegalArgumentException` if ticks is out of range", () -> wrongTicks(BakeTurns::spoiledIn));
    }

    private static void owing() {
        Sentence.section("Promise 22");
        Sentence.holds("Returns what a household would owe if the logs were settled now.", WhatIfSentences::owedIfSettledNow);
        Sentence.holds("`house`: number of a household", WhatIfSentences::householdsThatOwe);
        Sentence.holds("Returns the logs; 0 if no use was counted.", WhatIfSentences::owes0WithoutUse);
        Sentence.holds("Throws `IndexOutOfBoundsException` if there is no such household", WhatIfSentences::noSuchHousehold);
    }

    private interface Question {
        int ask(BakeTurns x, int number);
    }

    // ---- what several of them have in common

    private static void doughsOf(Question question) {
        BakeTurns x = Bakery.plain();
        Bakery.doughs(x, 3, 0, 0, 1);
        long before = x.digest();
        Check.isTrue("the first", question.ask(x, 0) > 0 || question.ask(x, 0) == -1);
        Check.isTrue("the last", question.ask(x, 2) > 0 || question.ask(x, 2) == -1);
        Check.same("asking changes nothing", before, x.digest());
        for (int dough : new int[] {-1, 3, 15, 16, FAR, FAR_BELOW}) {
            Check.outOfBounds("dough " + dough, x, () -> question.ask(x, dough));
        }
    }

    private static void noSuchDough(Question question) {
        BakeTurns x = Bakery.plain();
        Check.outOfBounds("none", x, () -> question.ask(x, 0));
        x.addDough(0, 0, 1);
        Check.outOfBounds("1", x, () -> question.ask(x, 1));
        Check.outOfBounds("-1", x, () -> question.ask(x, -1));
        x.pass(41);
        Check.same("spoiled, but there", -1, question.ask(x, 0));
        x.clearDoughs();
        Check.outOfBounds("cleared away", x, () -> question.ask(x, 0));
    }

    private static void noneOfThoseThatDoNotWait(Question question) {
        BakeTurns x = Bakery.with(300, new int[] {200, 300, 2, 0, 40}, new int[] {350, 400, 1, 0, 1},
            new int[] {200, 300, 20, 0, 40});
        x.addDough(0, 0, 1);
        x.addDough(0, 1, 1);
        x.addDough(0, 2, 1);
        x.addDough(0, 2, 1);
        x.pass(2);
        Bakery.doughsAre("done, spoiled, in the oven, waiting", x, 4, 2, 3, 1, 0);
        Check.same("done", -1, question.ask(x, 0));
        Check.same("spoiled", -1, question.ask(x, 1));
        Check.same("in the oven", -1, question.ask(x, 2));
        Check.isTrue("waiting", question.ask(x, 3) >= 0);
    }

    private static void ticks0To100(Question question) {
        BakeTurns x = Bakery.heated(300);
        Bakery.doughs(x, 9, 0, 0, 4);
        long before = x.digest();
        Check.isTrue("the fewest", question.ask(x, 0) >= 0);
        Check.isTrue("the most", question.ask(x, 100) >= 0);
        Check.same("asking changes nothing", before, x.digest());
        for (int ticks : new int[] {-1, 101, FAR, FAR_BELOW}) {
            Check.badArgument(ticks + " ticks", x, () -> question.ask(x, ticks));
        }
    }

    private static void wrongTicks(Question question) {
        BakeTurns x = new BakeTurns();
        Check.badArgument("-1", x, () -> question.ask(x, -1));
        Check.badArgument("101", x, () -> question.ask(x, 101));
    }

    // ---- promise 17

    private static void asThingsAreNow() {
        BakeTurns x = Bakery.with(300, new int[] {200, 300, 20, 1, 40}, new int[] {200, 300, 20, 0, 40});
        x.addDough(0, 0, 1);
        Check.same("its age now is 0", 2, x.reason(0));
        Check.same("though it would be loaded in the next tick", 1, x.loadedIn(0));
        x.addDough(0, 1, 4);
        x.addDough(0, 1, 4);
        Check.same("as if none was ahead of it", 0, x.reason(1));
        Check.same("as if none was ahead of it", 0, x.reason(2));
        x.pass(1);
        Check.same("loaded", 0, x.dough(0, 6));
        Check.same("its reason of the last tick is another", 1, x.dough(2, 5));
        Check.same("now it could be loaded", 0, x.reason(2));
        x.stoke(0, 4);
        Check.same("the heat as it is: 394", 5, x.reason(2));
        Check.same("asking changes nothing", 1, x.dough(2, 5));
        BakeTurns y = Bakery.with(0, new int[] {50, 60, 1, 0, 1});
        y.addDough(0, 0, 1);
        y.pass(1);
        y.stoke(0, 3);
        Check.same("though it would be spoiled in the next tick", 0, y.reason(0));
        Check.same("so it is not loaded", -1, y.loadedIn(0));
    }

    private static void reasons2To5() {
        BakeTurns x = Bakery.with(400, new int[] {50, 300, 20, 9, 40}, new int[] {50, 300, 20, 0, 40});
        x.addDough(0, 0, 4);
        x.addDough(0, 1, 4);
        Check.same("not ripe", 2, x.reason(0));
        Check.same("too hot", 5, x.reason(1));
        x.pass(8);
        Check.same("not ripe at the age of 8", 2, x.reason(0));
        x.pass(1);
        Check.same("ripe, but too hot", 5, x.reason(0));
        BakeTurns y = Bakery.with(375, new int[] {350, 400, 20, 0, 40}, new int[] {350, 400, 20, 1, 40});
        y.addDough(0, 0, 4);
        y.addDough(0, 0, 4);
        y.pass(1);
        y.addDough(0, 1, 4);
        Check.same("367, but 347 where places are free", 4, y.reason(1));
        Check.same("2 is before 4", 2, y.reason(2));
        BakeTurns z = Bakery.with(400, STAYS, new int[] {50, 400, 20, 30, 40}, new int[] {50, 60, 20, 0, 40},
            new int[] {350, 400, 20, 0, 40});
        Bakery.doughs(z, 4, 0, 0, 4);
        z.pass(2);
        Check.same("four places for four loaves", 0, z.reason(3));
        z.pass(1);
        for (int kind = 1; kind <= 3; kind++) {
            z.addDough(0, kind, 1);
        }
        Check.same("no place is free", 3, z.reason(3));
        Check.same("2 is before 3", 2, z.reason(4));
        Check.same("3 is before 5", 3, z.reason(5));
        z.pass(14);
        Check.same("348", 348, z.whole(3));
        Check.same("3 is before 4", 3, z.reason(6));
        BakeTurns w = Bakery.plain();
        w.addDough(0, 0, 1);
        Check.same("4 is before 5", 4, w.reason(0));
    }

    private static void reason0() {
        BakeTurns x = Bakery.heated(300);
        x.addDough(0, 0, 4);
        Check.same("before any tick", 0, x.reason(0));
        Check.same("then it is loaded", 0, x.dough(0, 4));
        x.pass(1);
        Check.same("then it is loaded", 1, x.dough(0, 4));
        BakeTurns y = Bakery.heated(200);
        y.addDough(0, 0, 4);
        Check.same("just warm enough", 0, y.reason(0));
        y.addDough(0, 0, 1);
        y.pass(1);
        Check.same("192", 4, y.reason(1));
    }

    // ---- promise 18

    private static void loadedInSoManyTicks() {
        BakeTurns x = Bakery.with(300, new int[] {200, 300, 20, 3, 40}, new int[] {200, 300, 20, 0, 40});
        x.addDough(0, 0, 4);
        Bakery.doughs(x, 2, 0, 1, 4);
        Check.same("when it is ripe", 3, x.loadedIn(0));
        Check.same("the first that can be", 1, x.loadedIn(1));
        Check.same("behind it", 2, x.loadedIn(2));
        Check.same("nothing is loaded", 3, x.whole(5));
        x.pass(3);
        Bakery.doughsAre("as was told", x, 6, 2, 0, 1);
        x.addDough(0, 1, 4);
        // dough 1 bakes in the ticks 0 to 19
        Check.same("when places become free", 18, x.loadedIn(3));
        x.pass(17);
        Check.same("all but one tick", 1, x.loadedIn(3));
        x.pass(1);
        Check.same("as was told", 20, x.dough(3, 6));
    }

    private static void beyond100000Ticks() {
        BakeTurns x = new BakeTurns();
        Bakery.toTick(x, 99990);
        x.pass(10);
        x.addKind(50, 400, 20, 30, 40);
        x.addKind(50, 60, 20, 0, 1);
        x.addHouse();
        x.stoke(0, 16);
        x.addDough(0, 0, 4);
        x.addDough(0, 1, 1);
        Check.badState("no tick can pass", x, () -> x.pass(1));
        Check.same("loadedIn", 30, x.loadedIn(0));
        Check.same("heatIn", 398, x.heatIn(1));
        Check.same("heatIn, loaded in the 30th tick, done in the 49th", 400 - 200 - 6 - 4, x.heatIn(100));
        Check.same("spoiledIn", 2, x.spoiledIn(2));
        Check.same("spoiledIn", 2, x.spoiledIn(100));
        Check.same("ticks", 100000, x.whole(4));
    }

    private static void loadedIn1To60() {
        BakeTurns x = Bakery.heated(300);
        x.addDough(0, 0, 1);
        Check.same("in the next tick", 1, x.loadedIn(0));
        // from 400 on, 40 less in band 2: in tick n it has 362 - 2 * n
        int[] greatest = {360, 359, 358, 300, 244, 243, 242};
        int[] due = {1, 2, 2, 31, 59, 60, 60};
        for (int i = 0; i < greatest.length; i++) {
            BakeTurns y = Bakery.with(400, new int[] {50, greatest[i], 20, 30, 40});
            y.addDough(0, 0, 1);
            Check.same("greatest heat " + greatest[i], Math.max(due[i], 30), y.loadedIn(0));
        }
    }

    private static void notLoadedIn60() {
        BakeTurns x = Bakery.with(400, new int[] {50, 241, 20, 30, 40});
        x.addDough(0, 0, 1);
        Check.same("in the 61st tick", -1, x.loadedIn(0));
        x.pass(1);
        Check.same("in the 60th", 60, x.loadedIn(0));
        BakeTurns y = Bakery.plain();
        y.addDough(0, 0, 1);
        Check.same("never, in the cold", -1, y.loadedIn(0));
        BakeTurns z = Bakery.with(325, new int[] {50, 270, 20, 0, 6}, new int[] {50, 270, 20, 0, 9});
        z.addDough(0, 0, 1);
        z.addDough(0, 1, 1);
        // 285 in band 2; 271 in the eighth tick, 269 in the ninth
        Check.same("spoiled before", -1, z.loadedIn(0));
        Check.same("in its last tick", 9, z.loadedIn(1));
    }

    // ---- promise 19

    private static void fewestLogs() {
        BakeTurns x = Bakery.plain();
        x.addDough(0, 0, 4);
        Check.same("200", 8, x.neededLogs(0));
        x.addDough(0, 0, 4);
        Check.same("as if it alone was looked at", 8, x.neededLogs(1));
        Check.same("nothing is stoked", 0, x.whole(3));
        x.stoke(0, x.neededLogs(0));
        Check.same("then it could be loaded", 0, x.reason(0));
        x.pass(1);
        Check.same("192, and four places are free in band 1", 2, x.neededLogs(1));
        x.stoke(0, 1);
        Check.same("one more", 1, x.neededLogs(1));
        BakeTurns y = Bakery.with(0, new int[] {50, 70, 20, 1, 40}, new int[] {200, 300, 20, 0, 40});
        y.addDough(0, 0, 1);
        Check.same("not ripe, whatever the heat", -1, y.neededLogs(0));
        y.pass(1);
        Check.same("50", 2, y.neededLogs(0));
        BakeTurns z = new BakeTurns();
        z.addKind(350, 400, 1, 0, 40);
        z.addHouse();
        z.stoke(0, 10);
        z.pass(100);
        z.stoke(0, 8);
        z.pass(100);
        z.addDough(0, 0, 1);
        Check.same("what the household has does not matter", 12, z.neededLogs(0));
    }

    private static void logs0To16() {
        BakeTurns x = Bakery.heated(300);
        x.addDough(0, 0, 4);
        Check.same("none", 0, x.neededLogs(0));
        BakeTurns y = Bakery.with(0, new int[] {350, 400, 20, 0, 40});
        y.addDough(0, 0, 4);
        Check.same("14", 14, y.neededLogs(0));
        // doughs that are too cold to bake take up bands 0 and 1
        BakeTurns z = Bakery.with(100, new int[] {80, 400, 20, 0, 40}, new int[] {340, 400, 20, 0, 40},
            new int[] {60, 360, 1, 0, 40});
        z.addDough(0, 0, 4);
        z.pass(1);
        z.stoke(0, 1);
        z.addDough(0, 0, 4);
        z.pass(1);
        z.pass(100);
        z.pass(20);
        Check.same("cold", 0, z.whole(3));
        Check.same("four places are free", 4, z.whole(6));
        z.addDough(0, 1, 4);
        z.addDough(0, 2, 4);
        Check.same("340 in band 2: 380", 16, z.neededLogs(2));
        Check.same("60 in band 2", 4, z.neededLogs(3));
        z.stoke(0, 1);
        Check.same("one less", 15, z.neededLogs(2));
    }

    private static void noSuchNumberUpTo400() {
        BakeTurns x = Bakery.with(0, new int[] {326, 349, 20, 0, 40}, new int[] {331, 334, 20, 0, 40});
        x.addDough(0, 0, 1);
        x.addDough(0, 1, 1);
        Check.same("345 in band 2 or 330 in band 1: 350 to 390", 14, x.neededLogs(0));
        Check.same("330 and 335, but nothing between", -1, x.neededLogs(1));
        x.stoke(0, 16);
        Check.same("already too hot", -1, x.neededLogs(0));
        BakeTurns y = Bakery.with(400, new int[] {350, 400, 20, 0, 40});
        Bakery.doughs(y, 4, 0, 0, 4);
        y.pass(2);
        Check.same("384: 344 in band 2, and no log more", -1, y.neededLogs(2));
        y.pass(4);
        Check.same("376", -1, y.neededLogs(2));
        y.pass(1);
        Check.same("374 and one log: 399", 1, y.neededLogs(2));
        BakeTurns z = Bakery.with(375, new int[] {350, 400, 20, 0, 40});
        Bakery.doughs(z, 2, 0, 0, 4);
        z.pass(1);
        z.stoke(0, 1);
        z.addDough(0, 0, 4);
        Check.same("392", 0, z.neededLogs(2));
        BakeTurns w = Bakery.with(375, new int[] {350, 400, 20, 0, 40}, new int[] {350, 370, 20, 0, 40});
        w.addDough(0, 1, 4);
        Check.same("355 in band 1", 0, w.neededLogs(0));
        w.pass(1);
        w.addDough(0, 0, 4);
        w.addDough(0, 0, 4);
        Check.same("367: band 0 fits", 0, w.neededLogs(1));
        w.pass(1);
        Check.same("359: band 2 with 390 and more", -1, w.neededLogs(2));
        w.pass(4);
        w.stoke(0, 1);
        Check.same("376: no log more", -1, w.neededLogs(2));
        w.pass(1);
        Check.same("374: 399", 1, w.neededLogs(2));
    }

    // ---- promise 20

    private static void heatAfterSomeTicks() {
        BakeTurns x = Bakery.heated(300);
        x.addDough(0, 0, 4);
        x.addDough(0, 0, 3);
        int[] due = {300, 292, 285, 279, 273, 271};
        for (int ticks = 0; ticks < due.length; ticks++) {
            Check.same("in " + ticks, due[ticks], x.heatIn(ticks));
        }
        Check.same("nothing passes", 0, x.whole(4));
        for (int tick = 0; tick < due.length; tick++) {
            Check.same("as was told", due[tick], x.whole(3));
            x.pass(1);
        }
    }

    private static void heatAtBothEnds() {
        BakeTurns x = Bakery.with(400);
        Check.same("now", 400, x.heatIn(0));
        Check.same("in 100", 200, x.heatIn(100));
        x.pass(100);
        Check.same("in 99", 2, x.heatIn(99));
        Check.same("in 100", 0, x.heatIn(100));
        x.pass(50);
        Check.same("at least 0", 0, x.heatIn(100));
        Check.same("a new object", 0, new BakeTurns().heatIn(100));
    }

    // ---- promise 21

    private static void spoiledOfThoseThatWaitNow() {
        BakeTurns x = Bakery.with(300, new int[] {350, 400, 3, 0, 2}, new int[] {350, 400, 3, 2, 2},
            new int[] {200, 300, 3, 0, 40});
        x.addDough(0, 0, 1);
        x.addDough(0, 1, 1);
        x.addDough(0, 2, 1);
        x.addDough(0, 0, 1);
        Check.same("in 2", 0, x.spoiledIn(2));
        Check.same("in 3", 9, x.spoiledIn(3));
        Check.same("in 4", 9, x.spoiledIn(4));
        Check.same("in 5", 11, x.spoiledIn(5));
        Check.same("the third is loaded", 11, x.spoiledIn(100));
        Check.same("nothing passes", 0, x.whole(13));
        x.pass(3);
        Check.same("two are spoiled", 2, x.whole(13));
        Check.same("they do not wait now", 0, x.spoiledIn(1));
        Check.same("the last one", 2, x.spoiledIn(2));
        x.clearDoughs();
        Check.same("by its new number", 1, x.spoiledIn(2));
    }

    private static void setOfDoughs() {
        BakeTurns x = Bakery.plain();
        Check.same("no doughs", 0, x.spoiledIn(100));
        Bakery.doughs(x, 16, 0, 0, 1);
        Check.same("none", 0, x.spoiledIn(0));
        Check.same("none", 0, x.spoiledIn(40));
        Check.same("all", 0xFFFF, x.spoiledIn(41));
        BakeTurns y = Bakery.with(0, new int[] {50, 60, 1, 30, 40}, new int[] {50, 60, 1, 0, 1});
        Bakery.doughs(y, 15, 0, 0, 1);
        y.addDough(0, 1, 1);
        Check.same("the last alone", 0x8000, y.spoiledIn(70));
        Check.same("all", 0xFFFF, y.spoiledIn(71));
    }

    // ---- promise 22

    private static void owedIfSettledNow() {
        BakeTurns x = Bakery.heated(300);
        x.addDough(1, 0, 2);
        x.addDough(0, 0, 1);
        x.pass(2);
        // 12 logs by uses 1 and 4: 2 rest 2, 9 rest 3
        Check.same("smaller remainder", 2, x.owes(0));
        Check.same("greater remainder", 10, x.owes(1));
        Check.same("nothing is settled", 12, x.whole(7));
        Check.same("nothing is settled", 5, x.whole(8));
        x.settle();
        Check.same("as was told: 99 - 12 + 12 - 2", 97, x.house(0, 0));
        Check.same("as was told: 99 - 10", 89, x.house(1, 0));
        Check.same("settled", 0, x.owes(0));
        Check.same("settled", 0, x.owes(1));
        x.pass(1);
        Check.same("use without logs", 0, x.owes(1));
    }

    private static void householdsThatOwe() {
        BakeTurns x = Bakery.heated(300);
        x.addDough(1, 0, 2);
        x.pass(1);
        Check.same("the first", 0, x.owes(0));
        Check.same("the last", 12, x.owes(1));
        for (int house : new int[] {-1, 2, 7, 8, FAR, FAR_BELOW}) {
            Check.outOfBounds("household " + house, x, () -> x.owes(house));
        }
    }

    private static void owes0WithoutUse() {
        BakeTurns x = Bakery.heated(300);
        Check.same("no use was ever counted", 0, x.owes(0));
        x.pass(9);
        Check.same("no use was ever counted", 0, x.owes(1));
        x.addDough(0, 0, 1);
        x.pass(60);
        x.settle();
        x.stoke(1, 3);
        Check.same("none since the last settling", 0, x.owes(0));
        Check.same("none since the last settling", 0, x.owes(1));
    }

    private static void noSuchHousehold() {
        BakeTurns x = new BakeTurns();
        Check.outOfBounds("none", x, () -> x.owes(0));
        x.addHouse();
        Check.same("one", 0, x.owes(0));
        Check.outOfBounds("1", x, () -> x.owes(1));
        Check.outOfBounds("-1", x, () -> x.owes(-1));
        x.undo();
        Check.outOfBounds("undone", x, () -> x.owes(0));
    }
}
