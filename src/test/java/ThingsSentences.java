/** "Terms", "THE OVEN" and "KINDS, HOUSEHOLDS, DOUGHS". */
final class ThingsSentences {
    private ThingsSentences() {
    }

    static void all() {
        Sentence.section("Terms");
        Sentence.holds("All numbers are whole; a / b is rounded down (all divided numbers are 0 or more).",
            ThingsSentences::dividesRoundedDown);
        Sentence.holds("Time is counted in ticks, from 0.", ThingsSentences::timeIsCountedFrom0);
        Sentence.section("THE OVEN");
        Sentence.holds("The oven has a heat, 0 to 400 (0 at first).", ThingsSentences::heatLiesIn0To400);
        Sentence.holds("The hearth has 12 places, numbered from 0: 0 to 3 lie in band 0, at the back, 4 to 7 in band 1, "
            + "8 to 11 in band 2, at the front.", ThingsSentences::placesLieInBands);
        Sentence.holds("The heat of a place is the heat of the oven minus 20 for band 1 and minus 40 for band 2, at "
            + "least 0.", ThingsSentences::placesLoseHeatByBand);
        Sentence.holds("A place holds one loaf.", ThingsSentences::aPlaceHoldsOneLoaf);
        Sentence.section("KINDS, HOUSEHOLDS, DOUGHS");
        Sentence.holds("There are at most 5 kinds, numbered from 0.", ThingsSentences::atMost5Kinds);
        Sentence.holds("A kind has a least heat (50 to 350), a greatest heat (the least heat to 400), a number of ticks to "
            + "bake (1 to 20), ticks to ripen (0 to 30), and ticks to keep (1 to 40).", ThingsSentences::kindsLieInTheirRanges);
        Sentence.holds("There are at most 8 households, numbered from 0, each with a balance of logs (0 at first).",
            ThingsSentences::atMost8Households);
        Sentence.holds("There are at most 16 doughs, numbered from 0 in the order in which they came.",
            ThingsSentences::atMost16Doughs);
        Sentence.holds("A dough belongs to a household, is of a kind, and has 1 to 4 loaves and an age, 0 at first.",
            ThingsSentences::doughHasHouseholdKindLoavesAge);
        Sentence.holds("It is waiting (0), in the oven (1), done (2), or spoiled (3).", ThingsSentences::statesOfADough);
        Sentence.holds("A dough that waits is in the line; a new one comes to its end.",
            ThingsSentences::whoWaitsIsInTheLine);
    }

    private static void dividesRoundedDown() {
        BakeTurns x = Bakery.heated(300);
        x.addDough(0, 0, 3);
        x.pass(1);
        Check.same("3 / 2 is 1", 300 - 2 - 4 - 1, x.whole(3));
        BakeTurns y = Bakery.with(25, new int[] {50, 400, 20, 0, 40});
        y.stoke(0, 2);
        y.addDough(0, 0, 1);
        y.addDough(1, 0, 3);
        y.pass(2);
        // 3 logs by uses 2 and 3: 6 / 5 and 9 / 5 are both 1, and one is missing
        Check.same("6 / 5 is 1", 1, y.owes(0));
        Check.same("9 / 5 is 1, and the one that is missing", 2, y.owes(1));
    }

    private static void timeIsCountedFrom0() {
        BakeTurns x = Bakery.heated(300);
        Check.same("at first", 0, x.whole(4));
        x.addDough(0, 0, 1);
        x.addDough(0, 0, 1);
        x.pass(1);
        Check.same("after a tick", 1, x.whole(4));
        x.pass(1);
        Check.same("the first tick is 0", 0, x.dough(0, 6));
        Check.same("the second tick is 1", 1, x.dough(1, 6));
    }

    private static void heatLiesIn0To400() {
        Check.same("at first", 0, new BakeTurns().whole(3));
        BakeTurns x = Bakery.with(375);
        Check.same("400 can be had", 400, x.stoke(0, 1));
        Check.badState("425 cannot", x, () -> x.stoke(0, 1));
        x.pass(100);
        x.pass(99);
        Check.same("falls to 2", 2, x.whole(3));
        x.pass(1);
        Check.same("falls to 0", 0, x.whole(3));
        x.pass(1);
        Check.same("and no further", 0, x.whole(3));
    }

    private static void placesLieInBands() {
        BakeTurns x = Bakery.with(300);
        int[] due = {300, 300, 300, 300, 280, 280, 280, 280, 260, 260, 260, 260};
        for (int p = 0; p < 12; p++) {
            Check.same("heat of place " + p, due[p], x.place(p, 0));
        }
        Check.same("free places", 12, x.whole(6));
        Check.outOfBounds("place -1", x, () -> x.place(-1, 0));
        Check.outOfBounds("place 12", x, () -> x.place(12, 0));
    }

    private static void placesLoseHeatByBand() {
        for (int start = 50; start <= 75; start += 25) {
            BakeTurns x = Bakery.with(start);
            for (int heat = start; heat > 0; heat -= 2) {
                Check.same("band 0 at " + heat, heat, x.place(0, 0));
                Check.same("band 1 at " + heat, heat > 20 ? heat - 20 : 0, x.place(7, 0));
                Check.same("band 2 at " + heat, heat > 40 ? heat - 40 : 0, x.place(8, 0));
                x.pass(1);
            }
            Check.same("cold", 0, x.place(0, 0) + x.place(4, 0) + x.place(11, 0));
        }
    }

    private static void aPlaceHoldsOneLoaf() {
        BakeTurns x = Bakery.with(400, new int[] {100, 400, 20, 0, 40});
        Bakery.doughs(x, 4, 0, 0, 3);
        x.addDough(0, 0, 1);
        x.pass(5);
        for (int p = 0; p < 12; p++) {
            Check.same("dough on place " + p, p / 3, x.place(p, 1));
        }
        Bakery.doughsAre("three places each", x, 8, 7, 7 << 3, 7 << 6, 7 << 9, 0);
        Check.same("free places", 0, x.whole(6));
        Check.same("a 13th loaf finds no place", 3, x.dough(4, 5));
    }

    private static void atMost5Kinds() {
        BakeTurns x = new BakeTurns();
        for (int k = 0; k < 5; k++) {
            Check.same("number", k, x.addKind(100 + k, 200, 3, 0, 5));
        }
        Check.badState("a sixth", x, () -> x.addKind(100, 200, 3, 0, 5));
        Check.same("kinds", 5, x.whole(0));
        for (int k = 0; k < 5; k++) {
            Check.same("least heat of " + k, 100 + k, x.kind(k, 0));
        }
    }

    private static void kindsLieInTheirRanges() {
        int[][] fine = {{50, 50, 1, 0, 1}, {350, 350, 20, 30, 40}, {350, 400, 20, 30, 40}, {50, 400, 1, 0, 1}};
        for (int[] v : fine) {
            BakeTurns x = new BakeTurns();
            Check.same("number", 0, x.addKind(v[0], v[1], v[2], v[3], v[4]));
            for (int i = 0; i < 5; i++) {
                Check.same("value " + i, v[i], x.kind(0, i));
            }
        }
        int[][] wrong = {{49, 200, 1, 0, 1}, {351, 400, 1, 0, 1}, {200, 199, 1, 0, 1}, {200, 401, 1, 0, 1},
            {200, 200, 0, 0, 1}, {200, 200, 21, 0, 1}, {200, 200, 1, -1, 1}, {200, 200, 1, 31, 1}, {200, 200, 1, 0, 0},
            {200, 200, 1, 0, 41}};
        for (int[] v : wrong) {
            BakeTurns x = new BakeTurns();
            Check.badArgument(v[0] + " " + v[1] + " " + v[2] + " " + v[3] + " " + v[4], x,
                () -> x.addKind(v[0], v[1], v[2], v[3], v[4]));
        }
    }

    private static void atMost8Households() {
        BakeTurns x = new BakeTurns();
        for (int h = 0; h < 8; h++) {
            Check.same("number", h, x.addHouse());
            Check.same("balance at first", 0, x.house(h, 0));
        }
        Check.badState("a ninth", x, x::addHouse);
        Check.same("households", 8, x.whole(1));
        for (int h = 0; h < 8; h++) {
            Check.same("each has a balance of its own", h + 1, x.bring(h, h + 1));
        }
    }

    private static void atMost16Doughs() {
        BakeTurns x = Bakery.plain();
        for (int d = 0; d < 16; d++) {
            Check.same("number", d, x.addDough(d % 2, 0, 1 + d % 4));
        }
        Check.badState("a 17th", x, () -> x.addDough(0, 0, 1));
        Check.same("doughs", 16, x.whole(2));
        for (int d = 0; d < 16; d++) {
            Check.same("household of " + d, d % 2, x.dough(d, 0));
            Check.same("loaves of " + d, 1 + d % 4, x.dough(d, 2));
        }
    }

    private static void doughHasHouseholdKindLoavesAge() {
        BakeTurns x = Bakery.with(0, new int[] {50, 60, 1, 0, 9}, new int[] {70, 80, 1, 0, 9});
        x.addDough(1, 0, 1);
        x.addDough(0, 1, 4);
        Bakery.doughIs("the least loaves", x, 0, 1, 0, 1, 0);
        Bakery.doughIs("the most loaves", x, 1, 0, 1, 4, 0);
        Check.badArgument("0 loaves", x, () -> x.addDough(0, 0, 0));
        Check.badArgument("5 loaves", x, () -> x.addDough(0, 0, 5));
        x.pass(1);
        x.addDough(0, 0, 2);
        Check.same("age at first, though others are older", 0, x.dough(2, 3));
    }

    private static void statesOfADough() {
        BakeTurns x = Bakery.with(300, new int[] {200, 300, 2, 0, 40}, new int[] {350, 400, 2, 0, 1});
        x.addDough(0, 0, 1);
        x.addDough(0, 1, 1);
        Bakery.doughsAre("waiting", x, 4, 0, 0);
        x.pass(1);
        Bakery.doughsAre("in the oven", x, 4, 1, 0);
        x.pass(1);
        Bakery.doughsAre("done, and spoiled", x, 4, 2, 3);
        x.pass(9);
        Bakery.doughsAre("for good", x, 4, 2, 3);
    }

    private static void whoWaitsIsInTheLine() {
        BakeTurns x = Bakery.with(300, new int[] {200, 300, 2, 0, 40}, new int[] {350, 400, 2, 0, 1});
        Bakery.lineIs("nobody", x);
        x.addDough(0, 0, 1);
        x.addDough(0, 1, 1);
        x.addDough(0, 0, 1);
        Bakery.lineIs("all wait", x, 0, 1, 2);
        x.swap(0, 2);
        x.addDough(0, 0, 1);
        Bakery.lineIs("behind the last, not the one with the greatest number", x, 2, 1, 0, 3);
        x.pass(1);
        Bakery.lineIs("one is in the oven", x, 1, 0, 3);
        x.pass(1);
        Bakery.lineIs("one is spoiled, one more in the oven", x, 3);
        x.addDough(0, 1, 1);
        Bakery.lineIs("at the end", x, 3, 4);
    }
}
