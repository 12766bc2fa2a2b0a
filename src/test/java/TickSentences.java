/** "A TICK". */
final class TickSentences {
    /** Bakes for long at nearly any heat, so that it takes up places. */
    private static final int[] STAYS = {50, 400, 20, 0, 40};

    private TickSentences() {
    }

    static void all() {
        Sentence.section("A TICK");
        Sentence.holds("When a tick passes, these things happen, in this order:", TickSentences::inThisOrder);
        ageing();
        looking();
        loading();
        baking();
        cooling();
    }

    private static void ageing() {
        Sentence.holds("(1) The age of each dough that waits increases by 1;", TickSentences::thoseThatWaitGrowOlder);
        Sentence.holds("one whose age is greater then than the ticks to ripen plus the ticks to keep of its kind is "
            + "spoiled, and leaves the line", TickSentences::tooOldIsSpoiled);
        Sentence.holds("(its age and its reason stay).", TickSentences::ageAndReasonOfSpoiledStay);
    }

    private static void looking() {
        Sentence.holds("(2) The doughs in the line are looked at, from its front on.", TickSentences::lookedAtFromTheFront);
        Sentence.holds("A dough cannot be loaded for the first reason that applies:", TickSentences::firstReasonThatApplies);
        Sentence.holds("1 another one, ahead of it in the line, was loaded in this tick (whether it is ripe or not);",
            TickSentences::reason1BehindOneThatWasLoaded);
        Sentence.holds("2 it is not ripe (its age is less than its ticks to ripen);", TickSentences::reason2NotRipe);
        Sentence.holds("3 there are not so many free places as it has loaves;", TickSentences::reason3TooFewFreePlaces);
        Sentence.holds("4 there are not so many free places whose heat is at least the least heat of its kind;",
            TickSentences::reason4TooFewWarmPlaces);
        Sentence.holds("5 there are not so many free places whose heat is from the least to the greatest heat of its kind.",
            TickSentences::reason5TooFewFittingPlaces);
        Sentence.holds("The reason becomes that of the dough.", TickSentences::reasonBecomesThatOfTheDough);
    }

    private static void loading() {
        Sentence.holds("Otherwise it is loaded: it leaves the line,", TickSentences::loadedLeavesTheLine);
        Sentence.holds("and its loaves are put on the free places whose heat is from the least to the greatest heat, those "
            + "with the lowest numbers;", TickSentences::loavesTakeTheLowestFittingPlaces);
        Sentence.holds("the number of ticks that passed before this one is remembered as the tick in which it was loaded,",
            TickSentences::tickOfLoadingIsRemembered);
        Sentence.holds("its reason stays,", TickSentences::reasonOfLoadedStays);
        Sentence.holds("and the oven was opened.", TickSentences::loadingOpensTheOven);
    }

    private static void baking() {
        Sentence.holds("(3) Each loaf in the oven, also a new one, is heated: if the heat of its place is at least the least "
            + "heat of its kind, it is baked for one tick more;", TickSentences::bakedFromTheLeastHeatOn);
        Sentence.holds("if it is greater than the greatest heat, it is scorched for one tick more.",
            TickSentences::scorchedAboveTheGreatestHeat);
        Sentence.holds("(4) Each dough in the oven, by ascending numbers, all loaves of which are baked for at least the "
            + "ticks to bake of its kind, is taken out:", TickSentences::takenOutWhenAllLoavesAreBaked);
        Sentence.holds("it is done, its places are free,", TickSentences::takenOutIsDoneAndItsPlacesFree);
        Sentence.holds("its burnt loaves, those that were scorched for at least 3 ticks, are counted,",
            TickSentences::burntFromThreeScorchedTicksOn);
        Sentence.holds("and the oven was opened.", TickSentences::takingOutOpensTheOven);
    }

    private static void cooling() {
        Sentence.holds("(5) The use of each household increases by the number of its loaves that were in the oven in part "
            + "(3).", TickSentences::useCountsLoavesInTheOven);
        Sentence.holds("The heat falls by 2,", TickSentences::heatFallsBy2);
        Sentence.holds("by 4 more for each time that the oven was opened in this tick (for a dough that was loaded, and for "
            + "each one that was taken out),", TickSentences::heatFallsBy4ForEachOpening);
        Sentence.holds("and by 1 more for each 2 loaves that were loaded in it (rounded down),",
            TickSentences::heatFallsBy1ForEach2LoavesLoaded);
        Sentence.holds("but not below 0.", TickSentences::heatFallsNotBelow0);
        Sentence.holds("The number of ticks increases by 1.", TickSentences::ticksIncreaseBy1);
    }

    // ---- the order

    private static void inThisOrder() {
        BakeTurns x = Bakery.with(300, new int[] {200, 300, 3, 1, 40}, new int[] {300, 300, 1, 0, 40});
        x.addDough(0, 0, 1);
        x.pass(1);
        Check.same("ripens, then is loaded", 0, x.dough(0, 6));

        BakeTurns y = Bakery.with(0, new int[] {200, 300, 3, 0, 1});
        y.addDough(0, 0, 1);
        y.pass(1);
        y.stoke(0, 10);
        y.pass(1);
        Check.same("spoils, and is not loaded then", 3, y.dough(0, 4));
        Check.same("no loaf of it", 12, y.whole(6));

        BakeTurns z = Bakery.with(300, new int[] {300, 300, 1, 0, 40});
        z.addDough(0, 0, 1);
        Check.same("loaded, baked and taken out before the heat falls", 1, z.pass(1));
        Check.same("its use is counted nevertheless", 1, z.house(0, 1));
        Check.same("then the heat falls", 300 - 2 - 8, z.whole(3));

        BakeTurns w = Bakery.with(400, new int[] {100, 400, 4, 0, 40});
        Bakery.doughs(w, 4, 0, 0, 4);
        Check.same("one is taken out in the fourth tick", 1, w.pass(4));
        Check.same("too late for the one that was looked at before", 3, w.dough(3, 5));
        Check.same("it waits", 0, w.dough(3, 4));
        w.pass(1);
        Check.same("it is loaded in the tick behind", 4, w.dough(3, 6));
    }

    // ---- (1)

    private static void thoseThatWaitGrowOlder() {
        BakeTurns x = Bakery.with(300, new int[] {200, 300, 3, 0, 40}, new int[] {350, 400, 1, 0, 1},
            new int[] {350, 400, 1, 30, 40});
        x.addDough(0, 0, 1);
        x.addDough(0, 1, 1);
        Bakery.doughs(x, 14, 1, 2, 2);
        x.pass(1);
        Bakery.doughsAre("all waited", x, 3, 1, 1, 1, 1, 1, 1, 1, 1, 1, 1, 1, 1, 1, 1, 1, 1);
        x.pass(1);
        Bakery.doughsAre("one is in the oven", x, 3, 1, 2, 2, 2, 2, 2, 2, 2, 2, 2, 2, 2, 2, 2, 2, 2);
        x.pass(5);
        Check.same("done", 2, x.dough(0, 4));
        Bakery.doughsAre("one is done, one is spoiled", x, 3, 1, 2, 7, 7, 7, 7, 7, 7, 7, 7, 7, 7, 7, 7, 7, 7);
    }

    private static void tooOldIsSpoiled() {
        int[][] kinds = {{50, 60, 1, 0, 1}, {50, 60, 1, 2, 3}, {50, 60, 1, 30, 40}, {50, 60, 1, 0, 40}, {50, 60, 1, 30, 1}};
        for (int[] v : kinds) {
            BakeTurns x = Bakery.with(0, v);
            x.addDough(0, 0, 1);
            x.addDough(0, 0, 2);
            int last = v[3] + v[4];
            x.pass(last);
            Bakery.doughsAre("age " + last, x, 4, 0, 0);
            Bakery.lineIs("age " + last, x, 0, 1);
            Check.same("not counted yet", 0, x.whole(13));
            x.pass(1);
            Bakery.doughsAre("age " + last + " and 1", x, 4, 3, 3);
            Bakery.lineIs("age " + last + " and 1", x);
            Check.same("counted", 2, x.whole(13));
        }
        BakeTurns x = Bakery.with(0, new int[] {50, 60, 1, 0, 1}, new int[] {50, 60, 1, 0, 2});
        x.addDough(0, 1, 1);
        x.addDough(0, 0, 1);
        x.addDough(0, 1, 1);
        x.pass(2);
        Bakery.lineIs("the others stay in their order", x, 0, 2);
    }

    private static void ageAndReasonOfSpoiledStay() {
        BakeTurns x = Bakery.with(0, new int[] {200, 300, 3, 0, 2}, STAYS);
        x.addDough(0, 0, 1);
        x.addDough(0, 0, 1);
        x.pass(2);
        Bakery.doughsAre("too cold", x, 5, 4, 4);
        x.stoke(0, 16);
        x.pass(1);
        Bakery.doughsAre("spoiled", x, 4, 3, 3);
        Bakery.doughsAre("not looked at in the hot oven", x, 5, 4, 4);
        Bakery.doughsAre("the age with which it spoiled", x, 3, 3, 3);
        x.addDough(0, 1, 4);
        x.pass(9);
        Bakery.doughsAre("still", x, 5, 4, 4);
        Bakery.doughsAre("still", x, 3, 3, 3);
    }

    // ---- (2) reasons

    private static void lookedAtFromTheFront() {
        BakeTurns x = Bakery.heated(300);
        Bakery.doughs(x, 3, 0, 0, 1);
        x.swap(0, 2);
        x.pass(1);
        Bakery.doughsAre("the front, which has the last number, is loaded", x, 4, 0, 0, 1);
        x.pass(2);
        Bakery.doughsAre("in the order of the line", x, 6, 2, 1, 0);
    }

    private static void firstReasonThatApplies() {
        int[] unripe = {200, 300, 3, 30, 40};
        int[] hot = {50, 100, 3, 0, 40};
        int[] warm = {350, 400, 3, 0, 40};
        BakeTurns x = Bakery.with(300, new int[] {200, 300, 20, 0, 40}, unripe, warm, hot);
        for (int kind = 0; kind < 4; kind++) {
            x.addDough(0, kind, 4);
        }
        x.pass(1);
        Bakery.doughsAre("1 is before 2, 4 and 5", x, 5, 0, 1, 1, 1);
        x.pass(1);
        Bakery.doughsAre("2, 4 and 5 else", x, 5, 0, 2, 4, 5);

        BakeTurns y = Bakery.with(400, STAYS, new int[] {350, 400, 3, 5, 40}, new int[] {50, 60, 3, 5, 40}, hot, warm);
        Bakery.doughs(y, 3, 0, 0, 4);
        for (int kind = 1; kind < 5; kind++) {
            y.addDough(0, kind, 4);
        }
        y.pass(3);
        Check.same("full", 0, y.whole(6));
        Bakery.doughsAre("1 is before 2, 4 and 5, and also before 3 of the full hearth", y, 5, 0, 1, 1, 1, 1, 1, 1);
        y.pass(1);
        Bakery.doughsAre("2 is before 3, which is before 4 and 5", y, 5, 0, 1, 1, 2, 2, 3, 3);

        BakeTurns z = Bakery.with(0, new int[] {200, 300, 3, 2, 40}, new int[] {200, 300, 3, 0, 40});
        z.addDough(0, 0, 1);
        z.addDough(0, 1, 1);
        z.pass(1);
        Bakery.doughsAre("2 is before 4, which is before 5", z, 5, 2, 4);
        z.stoke(0, 16);
        z.addDough(0, 0, 1);
        z.pass(1);
        Bakery.doughsAre("2 is before 5", z, 5, 5, 5, 2);
    }

    private static void reason1BehindOneThatWasLoaded() {
        BakeTurns x = Bakery.with(300, new int[] {200, 300, 3, 0, 40}, new int[] {200, 300, 3, 9, 40},
            new int[] {350, 400, 3, 0, 40});
        x.addDough(0, 1, 1);
        x.addDough(0, 2, 1);
        x.addDough(0, 0, 1);
        x.addDough(0, 0, 1);
        x.addDough(0, 1, 1);
        x.pass(1);
        Bakery.doughsAre("two ahead of it, two behind it, of which one is not ripe", x, 5, 2, 4, 0, 1, 1);
        Bakery.doughsAre("one alone is loaded", x, 4, 0, 0, 1, 0, 0);
        x.pass(1);
        Bakery.doughsAre("the next one", x, 4, 0, 0, 1, 1, 0);
        x.pass(1);
        Bakery.doughsAre("nothing was loaded in this tick", x, 5, 2, 4, 0, 1, 2);
    }

    private static void reason2NotRipe() {
        for (int ripen : new int[] {0, 1, 2, 3, 30}) {
            BakeTurns x = Bakery.with(400, new int[] {50, 400, 20, ripen, 40});
            x.addDough(0, 0, 1);
            for (int age = 1; age < ripen; age++) {
                x.pass(1);
                Check.same("age " + age + " of " + ripen, 2, x.dough(0, 5));
                Check.same("it waits", 0, x.dough(0, 4));
            }
            x.pass(1);
            Check.same("ripe: " + ripen, 1, x.dough(0, 4));
            Check.same("ripe: " + ripen, ripen > 1 ? 2 : 0, x.dough(0, 5));
        }
    }

    private static void reason3TooFewFreePlaces() {
        for (int free = 1; free <= 3; free++) {
            BakeTurns x = Bakery.with(400, STAYS);
            x.addDough(0, 0, 4);
            x.addDough(0, 0, 4);
            x.addDough(0, 0, 4 - free);
            x.addDough(1, 0, free + 1);
            x.addDough(1, 0, free);
            x.pass(3);
            Check.same("free places", free, x.whole(6));
            x.pass(1);
            Bakery.doughsAre("one loaf too much", x, 5, 0, 1, 1, 3, 1);
            Bakery.doughsAre("just so many", x, 4, 1, 1, 1, 0, 1);
            x.addDough(1, 0, 1);
            x.pass(1);
            Bakery.doughsAre("none is free", x, 5, 0, 1, 1, 3, 1, 3);
        }
    }

    private static void reason4TooFewWarmPlaces() {
        // 250, 230, 210; then one loaf stands in band 0: 244, 224, 204
        BakeTurns x = Bakery.with(250, new int[] {250, 400, 20, 0, 40}, new int[] {244, 400, 20, 0, 40},
            new int[] {251, 400, 20, 0, 40}, new int[] {224, 400, 20, 0, 40}, new int[] {225, 400, 20, 0, 40});
        x.addDough(0, 2, 1);
        x.addDough(0, 0, 1);
        x.pass(1);
        Bakery.doughsAre("251 is more than 250, 250 is not", x, 4, 0, 1);
        Check.same("251 is more than 250", 4, x.dough(0, 5));
        x.addDough(0, 1, 4);
        x.addDough(0, 4, 4);
        x.addDough(0, 3, 4);
        x.pass(1);
        Bakery.doughsAre("three places have 244", x, 5, 4, 0, 4, 4, 0);
        Check.same("three have 244 and four 224", 0x1E, x.dough(4, 8));

        BakeTurns y = Bakery.with(250, new int[] {50, 400, 20, 0, 40}, new int[] {244, 400, 20, 0, 40});
        y.addDough(0, 0, 1);
        y.addDough(0, 1, 3);
        y.pass(2);
        Check.same("three places for three loaves", 0xE, y.dough(1, 8));
        y.addDough(0, 0, 4);
        y.addDough(0, 0, 2);
        y.pass(2);
        Check.same("a place that is taken does not count, though it is warm", 2, y.whole(6));
    }

    private static void reason5TooFewFittingPlaces() {
        // 400, 380, 360
        BakeTurns x = Bakery.with(400, new int[] {50, 360, 20, 0, 40}, new int[] {50, 359, 20, 0, 40});
        x.addDough(0, 1, 1);
        x.addDough(0, 0, 1);
        x.pass(1);
        Check.same("360 is more than 359", 5, x.dough(0, 5));
        Check.same("360 is not more than 360", 0x100, x.dough(1, 8));
        // when one loaf stands in band 2: 394, 374, 354
        BakeTurns y = Bakery.with(400, new int[] {50, 360, 20, 0, 40}, new int[] {50, 354, 20, 0, 40});
        y.addDough(0, 0, 1);
        y.addDough(0, 1, 4);
        y.addDough(0, 1, 3);
        y.pass(2);
        Check.same("three places have 354", 5, y.dough(1, 5));
        Check.same("three places for three loaves", 0xE00, y.dough(2, 8));
        // 300, 280, 260
        BakeTurns z = Bakery.with(300, new int[] {281, 299, 20, 0, 40}, new int[] {261, 279, 20, 0, 40},
            new int[] {280, 280, 20, 0, 40});
        z.addDough(0, 0, 1);
        z.addDough(0, 1, 1);
        z.addDough(0, 2, 4);
        z.pass(1);
        Bakery.doughsAre("warm places, none of which fits", z, 5, 5, 5, 0);
        Check.same("band 1 alone has 280", 0xF0, z.dough(2, 8));
    }

    private static void reasonBecomesThatOfTheDough() {
        BakeTurns x = Bakery.with(0, new int[] {200, 300, 20, 2, 40}, STAYS);
        x.addDough(0, 0, 4);
        Check.same("before any", 0, x.dough(0, 5));
        x.pass(1);
        Check.same("not ripe", 2, x.dough(0, 5));
        x.pass(1);
        Check.same("too cold", 4, x.dough(0, 5));
        x.stoke(0, 16);
        Check.same("not looked at yet", 4, x.dough(0, 5));
        x.pass(1);
        Check.same("too hot", 5, x.dough(0, 5));
        Bakery.doughs(x, 3, 0, 1, 4);
        x.swap(0, 1);
        x.pass(1);
        Check.same("behind one that was loaded", 1, x.dough(0, 5));
        x.pass(3);
        Check.same("no place is free", 3, x.dough(0, 5));
    }

    // ---- (2) loading

    private static void loadedLeavesTheLine() {
        BakeTurns x = Bakery.with(300, new int[] {200, 300, 3, 0, 40}, new int[] {200, 300, 3, 9, 40});
        x.addDough(0, 1, 1);
        x.addDough(0, 0, 1);
        x.addDough(0, 0, 1);
        x.pass(1);
        Bakery.lineIs("from the middle", x, 0, 2);
        Check.same("no place in the line", -1, x.dough(1, 7));
        x.pass(1);
        Bakery.lineIs("from the end", x, 0);
        x.pass(7);
        Bakery.lineIs("the last one", x);
    }

    private static void loavesTakeTheLowestFittingPlaces() {
        // 250, 230, 210; then 243, 223, 203; then 241, 221, 201
        BakeTurns x = Bakery.with(250, new int[] {200, 230, 20, 0, 40}, new int[] {50, 400, 1, 0, 40});
        x.addDough(0, 0, 3);
        x.addDough(0, 0, 3);
        x.pass(1);
        Check.same("band 0 is too hot", 0x70, x.dough(0, 8));
        x.pass(1);
        Check.same("the last of band 1, two of band 2", 0x380, x.dough(1, 8));
        x.addDough(0, 1, 2);
        Check.same("done at once", 1, x.pass(1));
        x.addDough(0, 1, 3);
        x.pass(1);
        Check.same("places that became free are taken anew", 3, x.dough(3, 6));

        BakeTurns y = Bakery.with(300, new int[] {100, 400, 3, 0, 40}, STAYS);
        y.addDough(0, 0, 2);
        y.addDough(0, 1, 1);
        y.addDough(0, 1, 2);
        y.addDough(0, 1, 4);
        y.pass(4);
        Bakery.doughsAre("from both sides of the one in between", y, 8, 0, 4, 0x18, 0x63);
    }

    private static void tickOfLoadingIsRemembered() {
        BakeTurns x = Bakery.with(400, STAYS);
        x.addDough(0, 0, 1);
        Check.same("not loaded", -1, x.dough(0, 6));
        x.pass(1);
        Check.same("0 ticks passed before", 0, x.dough(0, 6));
        x.addDough(0, 0, 1);
        x.pass(1);
        Check.same("1 tick passed before", 1, x.dough(1, 6));
        x.pass(7);
        x.addDough(0, 0, 1);
        x.pass(20);
        Check.same("9 ticks passed before", 9, x.dough(2, 6));
        Bakery.doughsAre("also when they are done", x, 6, 0, 1, 9);
    }

    private static void reasonOfLoadedStays() {
        BakeTurns x = Bakery.with(0, new int[] {100, 150, 2, 0, 40});
        x.addDough(0, 0, 1);
        x.addDough(0, 0, 1);
        x.pass(1);
        x.stoke(0, 6);
        x.addDough(0, 0, 1);
        x.pass(1);
        Bakery.doughsAre("loaded with the reason from before", x, 5, 4, 1, 1);
        x.pass(1);
        Bakery.doughsAre("so the next one, and the one that is done", x, 5, 4, 1, 1);
        BakeTurns y = Bakery.heated(300);
        y.addDough(0, 0, 1);
        y.pass(1);
        Check.same("loaded without any reason before", 0, y.dough(0, 5));
    }

    private static void loadingOpensTheOven() {
        BakeTurns x = Bakery.with(300, STAYS);
        x.addDough(0, 0, 1);
        x.addDough(0, 0, 1);
        x.pass(1);
        Check.same("openings", 1, x.whole(11));
        Check.same("heat", 300 - 2 - 4, x.whole(3));
        x.pass(1);
        Check.same("openings", 2, x.whole(11));
        x.pass(1);
        Check.same("nothing is loaded", 2, x.whole(11));
    }

    // ---- (3) and (4)

    private static void bakedFromTheLeastHeatOn() {
        BakeTurns x = Bakery.with(200, new int[] {200, 400, 20, 0, 40}, new int[] {192, 400, 20, 0, 40});
        x.addDough(0, 0, 2);
        x.pass(1);
        // 193 behind the opening
        Check.same("a new one, at just its least heat", 1, x.place(0, 2));
        Check.same("its other loaf", 1, x.place(1, 2));
        x.addDough(0, 1, 4);
        x.pass(1);
        Check.same("193 is less than 200", 1, x.place(0, 2));
        Check.same("no room for four that are warm", 4, x.dough(1, 5));
        x.stoke(0, 1);
        x.pass(1);
        Check.same("216", 2, x.place(0, 2));
        Check.same("216, new", 1, x.place(2, 2));
        Check.same("196, new, and so many are needed", 1, x.place(4, 2));
        BakeTurns y = Bakery.with(75, STAYS);
        y.addDough(0, 0, 4);
        y.pass(11);
        for (int p = 0; p < 4; p++) {
            Check.same("75, 67, 65 and so on to 51, 49", 10, y.place(p, 2));
        }
        BakeTurns z = Bakery.with(225, STAYS, new int[] {190, 200, 20, 0, 40});
        z.addDough(0, 0, 4);
        z.addDough(0, 1, 4);
        z.pass(2);
        Check.same("217: 197 in band 1", 1, z.place(4, 2));
        z.pass(1);
        Check.same("209: 189 in band 1, by the heat of the place, not of the oven", 1, z.place(4, 2));
        z.stoke(0, 2);
        z.pass(1);
        Check.same("257: 237 in band 1, which scorches, and bakes", 2, z.place(4, 2));
        BakeTurns w = Bakery.with(300, new int[] {200, 300, 3, 0, 40});
        w.addDough(0, 0, 1);
        w.pass(3);
        w.addDough(0, 0, 1);
        w.pass(1);
        Check.same("a new one begins anew where another stood", 1, w.place(0, 2));
    }

    private static void scorchedAboveTheGreatestHeat() {
        BakeTurns x = Bakery.with(200, new int[] {100, 218, 20, 0, 40}, new int[] {100, 219, 20, 0, 40});
        x.addDough(0, 0, 1);
        x.addDough(0, 1, 1);
        x.pass(2);
        Check.same("188", 188, x.whole(3));
        Check.same("not scorched at 200", 0, x.place(0, 3));
        x.pass(3);
        x.stoke(0, 2);
        Check.same("232", 232, x.whole(3));
        x.pass(6);
        Check.same("220", 220, x.whole(3));
        Check.same("scorched six times", 6, x.place(0, 3));
        x.pass(1);
        Check.same("220 is greater than 218", 7, x.place(0, 3));
        Check.same("220 is greater than 219", 7, x.place(1, 3));
        x.pass(1);
        Check.same("218 is not greater than 218", 7, x.place(0, 3));
        Check.same("a scorched loaf is baked as well", 13, x.place(0, 2));
        for (int greatest = 196; greatest <= 197; greatest++) {
            BakeTurns y = Bakery.with(200, new int[] {160, greatest, 20, 0, 40});
            y.addDough(0, 0, 4);
            y.pass(1);
            Check.same("in band 1", 0xF0, y.dough(0, 8));
            y.stoke(0, 1);
            y.pass(1);
            Check.same("217, but 197 in band 1: greatest " + greatest, 197 - greatest, y.place(4, 3));
        }
    }

    private static void takenOutWhenAllLoavesAreBaked() {
        for (int bake : new int[] {1, 2, 20}) {
            BakeTurns x = Bakery.with(400, new int[] {50, 400, bake, 0, 40});
            x.addDough(0, 0, 2);
            if (bake > 1) {
                Check.same("one tick too few", 0, x.pass(bake - 1));
                Check.same("in the oven", 1, x.dough(0, 4));
            }
            Check.same("after " + bake, 1, x.pass(1));
            Check.same("done", 2, x.dough(0, 4));
        }
        // 224, so that three loaves stand in band 0 and one in band 1, which is too cold from the second tick on
        BakeTurns y = Bakery.with(250, new int[] {200, 300, 5, 0, 40}, STAYS);
        y.addDough(0, 1, 1);
        y.pass(11);
        y.addDough(0, 0, 4);
        y.pass(5);
        Bakery.placeIs("baked enough", y, 3, 208, 1, 5, 0);
        Bakery.placeIs("not baked enough", y, 4, 188, 1, 1, 0);
        Check.same("one loaf keeps all in the oven", 1, y.dough(1, 4));
        y.stoke(0, 1);
        y.pass(3);
        Check.same("for longer than it takes", 8, y.place(3, 2));
        Check.same("at once with the other", 2, y.pass(1));
    }

    private static void takenOutIsDoneAndItsPlacesFree() {
        BakeTurns x = Bakery.with(300, new int[] {100, 400, 2, 0, 40}, STAYS);
        x.addDough(0, 0, 3);
        x.addDough(0, 1, 2);
        x.pass(1);
        Check.same("taken", 7, x.dough(0, 8));
        x.pass(1);
        Bakery.doughIs("done", x, 0, 0, 0, 3, 1, 2, 0, 0, -1, 0, 0);
        Check.same("free places", 10, x.whole(6));
        for (int p = 0; p < 3; p++) {
            Bakery.placeIs("free", x, p, x.whole(3), -1, -1, -1);
        }
        Check.same("the other's are not", 0x18, x.dough(1, 8));
        Check.same("loaves done", 3, x.whole(12));
        x.addDough(1, 0, 1);
        x.pass(1);
        Bakery.placeIs("a new loaf on it begins anew", x, 0, x.whole(3), 2, 1, 0);
    }

    private static void burntFromThreeScorchedTicksOn() {
        for (int scorched = 0; scorched <= 4; scorched++) {
            BakeTurns y = Bakery.with(300, new int[] {200, 301, 1 + scorched, 0, 40});
            y.addDough(0, 0, 2);
            y.pass(1);
            if (scorched > 0) {
                y.stoke(0, 4);
            }
            for (int i = 1; i <= scorched; i++) {
                Check.same("not counted before it is taken out", 0, y.dough(0, 9));
                y.pass(1);
            }
            Check.same("done", 2, y.dough(0, 4));
            Check.same("burnt after " + scorched, scorched >= 3 ? 2 : 0, y.dough(0, 9));
            Check.same("burnt loaves of its household after " + scorched, scorched >= 3 ? 2 : 0, y.house(0, 6));
        }
        BakeTurns x = Bakery.with(350, new int[] {50, 330, 8, 0, 40}, new int[] {50, 400, 20, 0, 40});
        x.addDough(0, 1, 3);
        x.addDough(1, 0, 4);
        x.pass(1);
        // 343, 323, 303: band 1; then 335, 333 and so on
        x.pass(1);
        x.stoke(0, 2);
        x.pass(7);
        Bakery.doughIs("365 to 355 in band 1", x, 1, 1, 0, 4, 2, 2, 1, 1, -1, 0, 4);
        Check.same("by its own household", 4, x.house(1, 6));
        Check.same("not by the other", 0, x.house(0, 6));
        BakeTurns z = Bakery.with(325, new int[] {50, 310, 8, 0, 40}, new int[] {50, 400, 20, 0, 40});
        z.addDough(0, 1, 4);
        z.addDough(0, 1, 2);
        z.addDough(0, 0, 4);
        z.pass(3);
        // 325, 317, 310: the last two of band 1, the first two of band 2; then 302, and 352 with two logs
        Check.same("in two bands", 0x3C0, z.dough(2, 8));
        z.stoke(0, 2);
        z.pass(4);
        Check.same("332, 330, 328, 326 in band 1", 4, z.place(6, 3));
        Check.same("312 in band 2, then no more", 1, z.place(8, 3));
        z.pass(3);
        Check.same("the two in band 1 alone are burnt", 2, z.dough(2, 9));
    }

    private static void takingOutOpensTheOven() {
        BakeTurns x = Bakery.with(400, new int[] {50, 400, 3, 0, 40}, new int[] {50, 400, 2, 0, 40});
        x.addDough(0, 0, 1);
        x.addDough(0, 1, 1);
        x.pass(2);
        Check.same("two were loaded", 2, x.whole(11));
        Check.same("both are taken out", 2, x.pass(1));
        Check.same("once for each", 4, x.whole(11));
        Check.same("heat", 400 - 6 - 6 - 10, x.whole(3));
    }

    // ---- (5)

    private static void useCountsLoavesInTheOven() {
        BakeTurns x = Bakery.with(400, new int[] {50, 400, 2, 0, 40}, STAYS);
        x.addDough(0, 0, 3);
        x.addDough(1, 1, 4);
        x.addDough(0, 1, 2);
        x.pass(1);
        Check.same("new loaves", 3, x.house(0, 1));
        Check.same("those that wait do not count", 0, x.house(1, 1));
        x.pass(1);
        Check.same("those that are taken out then count", 6, x.house(0, 1));
        Check.same("new loaves", 4, x.house(1, 1));
        x.pass(1);
        Check.same("those that were taken out before do not", 8, x.house(0, 1));
        Check.same("again", 8, x.house(1, 1));
        Check.same("use of all", 16, x.whole(8));
        x.addDough(0, 1, 4);
        x.pass(16);
        Check.same("no dough of it is done", 72, x.house(1, 1));
        BakeTurns y = Bakery.with(75, new int[] {50, 60, 2, 0, 40});
        y.addDough(1, 0, 2);
        y.pass(9);
        Check.same("55 in band 1", 0x30, y.dough(0, 8));
        y.pass(3);
        Check.same("too cold to bake, but in the oven", 24, y.house(1, 1));
    }

    private static void heatFallsBy2() {
        BakeTurns x = Bakery.with(400, STAYS);
        x.pass(1);
        Check.same("an empty oven", 398, x.whole(3));
        x.pass(99);
        Check.same("100 ticks", 200, x.whole(3));
        x.addDough(0, 0, 1);
        x.pass(1);
        int loaded = x.whole(3);
        x.pass(1);
        Check.same("loaves that bake cost nothing more", loaded - 2, x.whole(3));
    }

    private static void heatFallsBy4ForEachOpening() {
        BakeTurns x = Bakery.with(400, new int[] {50, 400, 4, 0, 40}, new int[] {50, 400, 3, 0, 40},
            new int[] {50, 400, 2, 0, 40}, new int[] {50, 400, 1, 0, 40});
        for (int kind = 0; kind < 4; kind++) {
            x.addDough(0, kind, 1);
        }
        int heat = 400;
        for (int tick = 0; tick < 3; tick++) {
            x.pass(1);
            heat -= 2 + 4;
            Check.same("one is loaded", heat, x.whole(3));
        }
        Check.same("all are taken out, the last as soon as it was loaded", 4, x.pass(1));
        Check.same("one loaded and four taken out", heat - 2 - 5 * 4, x.whole(3));
        Check.same("openings", 3 + 5, x.whole(11));
    }

    private static void heatFallsBy1ForEach2LoavesLoaded() {
        int[] due = {0, 0, 1, 1, 2};
        for (int loaves = 1; loaves <= 4; loaves++) {
            BakeTurns x = Bakery.with(300, STAYS);
            x.addDough(0, 0, loaves);
            x.addDough(0, 0, 1);
            x.addDough(0, 0, loaves);
            x.pass(1);
            Check.same("loaves: " + loaves, 300 - 2 - 4 - due[loaves], x.whole(3));
            x.pass(2);
            Check.same("each tick by itself", 300 - 3 * 6 - 2 * due[loaves], x.whole(3));
        }
    }

    private static void heatFallsNotBelow0() {
        BakeTurns x = Bakery.with(25);
        x.pass(12);
        Check.same("odd", 1, x.whole(3));
        x.pass(1);
        Check.same("1 and 2 less", 0, x.whole(3));
        x.pass(100);
        Check.same("cold", 0, x.whole(3));
        Check.same("nor in what if", 0, Bakery.with(25).heatIn(13));
    }

    private static void ticksIncreaseBy1() {
        BakeTurns x = Bakery.heated(300);
        x.addDough(0, 0, 4);
        for (int tick = 1; tick <= 5; tick++) {
            x.pass(1);
            Check.same("ticks", tick, x.whole(4));
        }
        x.pass(95);
        Check.same("ticks", 100, x.whole(4));
    }
}
