/** Promises 7 to 10: logs, settling, and what happens in a tick. */
public final class LogsAndTicksTest {
    public static void main(String[] args) {
        promise7Bring();
        promise7BringRefuses();
        promise8Stoke();
        promise8StokeRefuses();
        promise9SettleWithoutUse();
        promise9SettleShares();
        promise9SettleGivesTheRestToGreatestRemainders();
        promise9SettleWithUseAlone();
        promise9SettleGoesBelowTheLeastBalance();
        promise10HeatFalls();
        promise10AgesAndSpoils();
        promise10LoadsOneDoughInATick();
        promise10Reasons();
        promise10FillsTheLowestFittingPlaces();
        promise10BakesAndScorches();
        promise10CountsFreePlacesOfEachHeat();
        promise10BurnsAtTheThirdScorching();
        promise10TakesOut();
        promise10TakesOutWholeDoughs();
        promise10Refuses();
        promise10MostTicks();
        Check.end();
    }

    private static void promise7Bring() {
        BakeTurns x = new BakeTurns();
        x.addHouse();
        x.addHouse();
        Check.same("bring", 1, x.bring(1, 1));
        Check.same("bring", 100, x.bring(1, 99));
        Bakery.houseIs("brought", x, 1, 100, 0, 0, 100);
        Bakery.houseIs("the other", x, 0, 0, 0, 0, 0);
        Check.same("brought in all", 100, x.whole(10));
        Check.same("undoable", 3, x.undo());
        Check.same("undone", 1, x.house(1, 0));
        Check.same("undone", 1, x.whole(10));
    }

    private static void promise7BringRefuses() {
        BakeTurns x = new BakeTurns();
        Check.outOfBounds("no household", x, () -> x.bring(0, 1));
        x.addHouse();
        Check.outOfBounds("household -1", x, () -> x.bring(-1, 1));
        Check.outOfBounds("household 1 and no logs", x, () -> x.bring(1, 0));
        Check.badArgument("no logs", x, () -> x.bring(0, 0));
        Check.badArgument("100 logs", x, () -> x.bring(0, 100));
        Check.badArgument("far too many logs", x, () -> x.bring(0, Integer.MAX_VALUE));
        for (int i = 0; i < 10; i++) {
            x.bring(0, 99);
        }
        Check.badState("balance 1000", x, () -> x.bring(0, 10));
        Check.same("balance 999", 999, x.bring(0, 9));
        Check.badState("balance 1000 by one", x, () -> x.bring(0, 1));
        Check.badArgument("no logs", x, () -> x.bring(0, 0));
        x.stoke(0, 1);
        Check.same("after stoking", 999, x.bring(0, 1));
    }

    private static void promise8Stoke() {
        BakeTurns x = new BakeTurns();
        x.addHouse();
        x.addHouse();
        x.bring(0, 5);
        Check.same("stoke", 75, x.stoke(0, 3));
        Bakery.houseIs("stoked", x, 0, 2, 0, 3, 5);
        Check.same("stoke", 175, x.stoke(1, 4));
        Bakery.houseIs("stoked on tick", x, 1, -4, 0, 4, 0);
        Bakery.wholeIs("stoked", x, 0, 2, 0, 175, 0, 0, 12, 7, 0, 7, 5, 0, 0, 0, 0);
        Check.same("undoable", 3, x.undo());
        Check.same("undone", 75, x.whole(3));
        Check.same("undone", 3, x.whole(7));
        Check.same("no opening: the heat falls by 2", 73, x.heatIn(1));
    }

    private static void promise8StokeRefuses() {
        BakeTurns x = new BakeTurns();
        Check.outOfBounds("no household", x, () -> x.stoke(0, 1));
        x.addHouse();
        x.addHouse();
        Check.outOfBounds("household -1", x, () -> x.stoke(-1, 1));
        Check.outOfBounds("household 2 and no logs", x, () -> x.stoke(2, 0));
        Check.badArgument("no logs", x, () -> x.stoke(0, 0));
        Check.badArgument("17 logs", x, () -> x.stoke(0, 17));
        Check.badArgument("far too few logs", x, () -> x.stoke(0, Integer.MIN_VALUE));
        Check.same("the most heat", 400, x.stoke(0, 16));
        Check.badState("too hot", x, () -> x.stoke(1, 1));
        x.pass(100);
        Check.same("fallen by 200", 200, x.whole(3));
        Check.badState("balance -21", x, () -> x.stoke(0, 5));
        Check.same("balance -20", 300, x.stoke(0, 4));
        Check.same("balance -20", -20, x.house(0, 0));
        Check.badState("balance -21 by one", x, () -> x.stoke(0, 1));
        Check.badState("300 and 5 logs", x, () -> x.stoke(1, 5));
        Check.same("to the brim", 400, x.stoke(1, 4));
        x.pass(1);
        Check.badState("399 and 25", x, () -> x.stoke(1, 1));
        x.pass(12);
        Check.same("374", 374, x.whole(3));
        Check.same("399", 399, x.stoke(1, 1));
    }

    private static void promise9SettleWithoutUse() {
        BakeTurns x = Bakery.heated(200);
        Check.same("no use", 0, x.settle());
        Check.same("still unsettled", 8, x.whole(7));
        Check.same("still paid", 8, x.house(0, 2));
        Check.same("balance", 91, x.house(0, 0));
        Check.same("saved all the same", 3, x.undo());
        Check.same("nothing was changed by it", 8, x.whole(7));
    }

    /** Household 0 has used 3, household 1 has used 6, and 12 logs are burnt. */
    private static BakeTurns used() {
        BakeTurns x = Bakery.heated(300);
        x.addDough(1, 0, 2);
        x.pass(3);
        x.addDough(0, 0, 1);
        x.pass(3);
        return x;
    }

    private static void promise9SettleShares() {
        BakeTurns x = used();
        Bakery.houseIs("used", x, 0, 87, 3, 12, 99, 1, 1, 0);
        Bakery.houseIs("used", x, 1, 99, 6, 0, 99, 1, 2, 0);
        Check.same("use of all", 9, x.whole(8));
        Check.same("settle", 12, x.settle());
        Bakery.houseIs("settled", x, 0, 95, 0, 0, 99, 1, 1, 0);
        Bakery.houseIs("settled", x, 1, 91, 0, 0, 99, 1, 2, 0);
        Check.same("unsettled", 0, x.whole(7));
        Check.same("use of all", 0, x.whole(8));
        Check.same("burnt in all stays", 12, x.whole(9));
        Check.same("settled already", 0, x.settle());
        Check.same("undo", 3, x.undo());
        Check.same("undo", 2, x.undo());
        Check.same("undone", 9, x.whole(8));
        Check.same("undone", 12, x.house(0, 2));
    }

    private static void promise9SettleGivesTheRestToGreatestRemainders() {
        BakeTurns x = new BakeTurns();
        x.addKind(50, 400, 1, 0, 40);
        for (int h = 0; h < 4; h++) {
            x.addHouse();
        }
        x.stoke(3, 8);
        x.addDough(0, 0, 2);
        x.addDough(1, 0, 3);
        x.addDough(2, 0, 2);
        x.pass(3);
        // 8 logs by uses 2, 3, 2 of 7: 2 rest 2, 3 rest 3, 2 rest 2; one is missing
        Check.same("owes", 2, x.owes(0));
        Check.same("owes, the greatest remainder", 4, x.owes(1));
        Check.same("owes", 2, x.owes(2));
        Check.same("owes, no use", 0, x.owes(3));
        x.stoke(3, 1);
        // 9 logs: 18, 27, 18 of 7: 2 rest 4, 3 rest 6, 2 rest 4; two are missing
        Check.same("owes, of equal remainders the lower number", 3, x.owes(0));
        Check.same("owes, the greatest remainder", 4, x.owes(1));
        Check.same("owes, of equal remainders the higher number", 2, x.owes(2));
        Check.same("settle", 9, x.settle());
        int[] due = {-3, -4, -2, 0};
        for (int h = 0; h < 4; h++) {
            Check.same("balance of " + h, due[h], x.house(h, 0));
        }
    }

    private static void promise9SettleWithUseAlone() {
        BakeTurns x = used();
        x.settle();
        x.addDough(0, 0, 1);
        x.pass(1);
        Check.same("use again", 1, x.whole(8));
        Check.same("nothing to settle", 0, x.settle());
        Check.same("but the use is gone", 0, x.whole(8));
        Check.same("and of the household", 0, x.house(0, 1));
        Check.same("balance as it was", 95, x.house(0, 0));
        BakeTurns y = Bakery.heated(300);
        y.addDough(1, 0, 1);
        y.pass(1);
        Check.same("one that was used once owes all", 12, y.owes(1));
        Check.same("settle", 12, y.settle());
        Check.same("balance", 87, y.house(1, 0));
    }

    private static void promise9SettleGoesBelowTheLeastBalance() {
        BakeTurns x = new BakeTurns();
        x.addKind(50, 400, 20, 0, 40);
        x.addHouse();
        x.addHouse();
        x.stoke(1, 16);
        x.addDough(0, 0, 4);
        x.pass(100);
        x.stoke(1, 4);
        x.stoke(0, 1);
        Check.same("all owed by the one that used", 21, x.owes(0));
        Check.same("settle", 21, x.settle());
        Check.same("paid 1, owed 21", -21 + 1 - 1, x.house(0, 0));
        Check.same("paid 20, owed 0", 0, x.house(1, 0));
        Check.badState("below -20 it cannot stoke", x, () -> x.stoke(0, 1));
        Check.same("it can bring", -20, x.bring(0, 1));
    }

    private static void promise10HeatFalls() {
        BakeTurns x = Bakery.heated(25);
        Check.same("nothing taken out", 0, x.pass(1));
        Check.same("by 2", 23, x.whole(3));
        Check.same("ticks", 1, x.whole(4));
        x.pass(11);
        Check.same("to 1", 1, x.whole(3));
        x.pass(1);
        Check.same("not below 0", 0, x.whole(3));
        x.pass(100);
        Check.same("not below 0", 0, x.whole(3));
        Check.same("ticks", 113, x.whole(4));
        Check.same("undoable", 3, x.undo());
        Check.same("ticks", 13, x.whole(4));
        int[] lost = {0, 6, 7, 7, 8};
        for (int loaves = 1; loaves <= 4; loaves++) {
            BakeTurns y = Bakery.heated(300);
            y.addDough(0, 0, loaves);
            y.pass(1);
            Check.same("loading " + loaves, 300 - lost[loaves], y.whole(3));
            Check.same("openings", 1, y.whole(11));
            y.pass(1);
            Check.same("baking", 298 - lost[loaves], y.whole(3));
            Check.same("taken out", 1, y.pass(1));
            Check.same("taking out", 292 - lost[loaves], y.whole(3));
            Check.same("openings", 2, y.whole(11));
        }
    }

    private static void promise10AgesAndSpoils() {
        BakeTurns x = new BakeTurns();
        x.addKind(50, 60, 1, 2, 3);
        x.addKind(50, 60, 1, 0, 1);
        x.addHouse();
        x.addDough(0, 0, 1);
        x.addDough(0, 1, 1);
        x.pass(1);
        Bakery.doughIs("ages", x, 0, 0, 0, 1, 1, 0, 2, -1, 0, 0, 0);
        Bakery.doughIs("ages", x, 1, 0, 1, 1, 1, 0, 4, -1, 1, 0, 0);
        x.pass(1);
        Bakery.doughIs("too old", x, 1, 0, 1, 1, 2, 3, 4, -1, -1, 0, 0);
        Bakery.doughIs("ripe now", x, 0, 0, 0, 1, 2, 0, 4, -1, 0, 0, 0);
        x.pass(3);
        Bakery.doughIs("just good", x, 0, 0, 0, 1, 5, 0, 4, -1, 0, 0, 0);
        x.addDough(0, 0, 1);
        Bakery.lineIs("line", x, 0, 2);
        x.pass(1);
        Bakery.doughIs("too old", x, 0, 0, 0, 1, 6, 3, 4, -1, -1, 0, 0);
        Bakery.lineIs("line", x, 2);
        Check.same("spoiled", 2, x.whole(13));
        x.pass(1);
        Check.same("its age stays", 6, x.dough(0, 3));
        Check.same("spoiled once", 2, x.whole(13));
    }

    private static void promise10LoadsOneDoughInATick() {
        BakeTurns x = Bakery.heated(300);
        x.addKind(200, 300, 3, 5, 40);
        x.addDough(0, 1, 1);
        x.addDough(0, 0, 2);
        x.addDough(0, 1, 1);
        x.addDough(1, 0, 1);
        x.pass(1);
        Check.same("ahead, not ripe", 2, x.dough(0, 5));
        Bakery.doughIs("loaded", x, 1, 0, 0, 2, 1, 1, 0, 0, -1, 3, 0);
        Check.same("behind, also not ripe", 1, x.dough(2, 5));
        Check.same("behind", 1, x.dough(3, 5));
        Bakery.lineIs("line", x, 0, 2, 3);
        x.pass(1);
        Bakery.doughIs("loaded then, its reason stays", x, 3, 1, 0, 1, 2, 1, 1, 1, -1, 4, 0);
        Check.same("ahead then", 2, x.dough(2, 5));
    }

    private static void promise10Reasons() {
        BakeTurns x = new BakeTurns();
        x.addKind(300, 310, 5, 0, 40);
        x.addKind(100, 400, 20, 0, 40);
        x.addKind(100, 400, 1, 9, 40);
        x.addHouse();
        x.bring(0, 99);
        x.stoke(0, 13);
        x.addDough(0, 0, 4);
        x.addDough(0, 2, 4);
        x.pass(1);
        Bakery.doughIs("band 1 fits: 305", x, 0, 0, 0, 4, 1, 1, 0, 0, -1, 240, 0);
        x.addDough(0, 0, 4);
        x.pass(1);
        Check.same("not ripe comes first", 2, x.dough(1, 5));
        Check.same("317 in band 0: warm, but too few fit", 5, x.dough(2, 5));
        x.addDough(0, 1, 4);
        x.addDough(0, 1, 3);
        x.pass(2);
        Check.same("both loaded", 1, x.dough(3, 4));
        Check.same("both loaded", 1, x.dough(4, 4));
        Check.same("four were free, 267 is too cold", 4, x.dough(2, 5));
        Check.same("one place is free", 1, x.whole(6));
        x.pass(1);
        Check.same("no room comes before too cold", 3, x.dough(2, 5));
    }

    private static void promise10FillsTheLowestFittingPlaces() {
        BakeTurns x = new BakeTurns();
        x.addKind(200, 230, 20, 0, 40);
        x.addKind(100, 400, 1, 0, 40);
        x.addHouse();
        x.bring(0, 99);
        x.stoke(0, 10);
        x.addDough(0, 0, 3);
        x.addDough(0, 0, 3);
        x.pass(1);
        Check.same("250, 230, 210: bands 1 and 2", 0x70, x.dough(0, 8));
        Check.same("243", 243, x.whole(3));
        x.pass(1);
        Check.same("243, 223, 203: the last of band 1, then band 2", 0x380, x.dough(1, 8));
        Check.same("236", 236, x.whole(3));
        x.addDough(0, 0, 3);
        x.pass(1);
        Check.same("236, 216, 196: none left that fits", 5, x.dough(2, 5));
        x.pass(2);
        Check.same("230", 230, x.whole(3));
        x.pass(1);
        Check.same("230 in band 0 is the greatest heat", 7, x.dough(2, 8));
        Check.same("twelve places, nine taken", 3, x.whole(6));
    }

    private static void promise10BakesAndScorches() {
        BakeTurns x = new BakeTurns();
        x.addKind(200, 205, 5, 0, 40);
        x.addHouse();
        x.addHouse();
        x.bring(0, 99);
        x.stoke(0, 8);
        x.addDough(1, 0, 4);
        x.pass(1);
        Check.same("192", 192, x.whole(3));
        Bakery.placeIs("baked at 200", x, 0, 192, 0, 1, 0);
        Bakery.placeIs("free", x, 4, 172, -1, -1, -1);
        x.pass(1);
        Bakery.placeIs("too cold to bake", x, 3, 190, 0, 1, 0);
        Check.same("but in use", 8, x.house(1, 1));
        x.stoke(0, 1);
        x.pass(3);
        Bakery.placeIs("215, 213, 211: scorched", x, 2, 209, 0, 4, 3);
        Check.same("not done", 0, x.whole(12));
        Check.same("done", 1, x.pass(1));
        Bakery.doughIs("burnt", x, 0, 1, 0, 4, 1, 2, 0, 0, -1, 0, 4);
        Bakery.houseIs("burnt", x, 1, 0, 24, 0, 0, 1, 4, 4);
        Bakery.placeIs("free again", x, 2, 203, -1, -1, -1);

        BakeTurns y = new BakeTurns();
        y.addKind(200, 205, 4, 0, 40);
        y.addHouse();
        y.bring(0, 99);
        y.stoke(0, 8);
        y.addDough(0, 0, 1);
        y.pass(1);
        y.stoke(0, 1);
        y.pass(2);
        Check.same("scorched at 219 and 217", 2, y.place(0, 3));
        Check.same("215", 215, y.whole(3));
        Check.same("scorched for the third time in its last tick", 1, y.pass(1));
        Check.same("burnt", 1, y.dough(0, 9));

        BakeTurns z = new BakeTurns();
        z.addKind(200, 219, 4, 0, 40);
        z.addKind(193, 221, 4, 0, 40);
        z.addHouse();
        z.bring(0, 99);
        z.stoke(0, 8);
        z.addDough(0, 0, 1);
        z.addDough(0, 1, 1);
        z.pass(1);
        Check.same("194", 194, z.whole(3));
        z.stoke(0, 1);
        z.pass(1);
        Bakery.placeIs("219 is the greatest heat of its kind", z, 0, 213, 0, 2, 0);
        Bakery.placeIs("219 is less than the greatest heat", z, 1, 213, 1, 1, 0);
    }

    /** One place too few, each time. */
    private static void promise10CountsFreePlacesOfEachHeat() {
        BakeTurns x = Bakery.heated(300);
        x.addKind(281, 400, 20, 0, 40);
        x.addKind(50, 280, 20, 0, 40);
        x.addDough(0, 1, 1);
        x.addDough(0, 1, 4);
        x.pass(2);
        Check.same("three in band 0", 4, x.dough(1, 5));
        x.addDough(0, 2, 1);
        x.pass(1);
        Check.same("292, 272: the first of band 1", 0x10, x.dough(2, 8));
        x.addDough(0, 1, 3);
        x.pass(1);
        Check.same("three in band 0", 0xE, x.dough(3, 8));
        BakeTurns y = Bakery.heated(375);
        y.addKind(330, 360, 20, 0, 40);
        y.addKind(50, 400, 20, 0, 40);
        y.addKind(100, 340, 20, 0, 40);
        y.addDough(0, 1, 1);
        y.addDough(0, 1, 4);
        y.addDough(0, 1, 3);
        y.pass(2);
        Check.same("369, 349, 329: eight are warm, three fit", 5, y.dough(1, 5));
        Check.same("as many fit as it has loaves", 0xE0, y.dough(2, 8));
    }

    private static void promise10BurnsAtTheThirdScorching() {
        for (int scorched = 2; scorched <= 4; scorched++) {
            BakeTurns x = Bakery.heated(300);
            x.addKind(200, 301, scorched + 1, 0, 40);
            x.addDough(0, 1, 2);
            x.pass(1);
            x.stoke(0, 4);
            Check.same("done", 1, x.pass(scorched));
            Check.same("burnt after " + scorched, scorched < 3 ? 0 : 2, x.dough(0, 9));
            Check.same("burnt after " + scorched, scorched < 3 ? 0 : 2, x.house(0, 6));
        }
    }

    private static void promise10TakesOut() {
        BakeTurns x = Bakery.heated(400);
        x.addKind(100, 400, 2, 0, 40);
        x.addKind(100, 400, 1, 0, 40);
        x.addDough(0, 1, 2);
        x.addDough(1, 2, 3);
        Check.same("loaded", 0, x.pass(1));
        Check.same("400 - 2 - 4 - 1", 393, x.whole(3));
        Check.same("both taken out", 2, x.pass(1));
        Check.same("393 - 2 - 3 * 4 - 1", 378, x.whole(3));
        Check.same("openings", 4, x.whole(11));
        Check.same("loaves done", 5, x.whole(12));
        Check.same("all places are free", 12, x.whole(6));
        Bakery.houseIs("use", x, 0, 83, 4, 16, 99, 1, 2, 0);
        Bakery.houseIs("use, of one that was done at once", x, 1, 99, 3, 0, 99, 1, 3, 0);
        Bakery.doughIs("done", x, 1, 1, 2, 3, 2, 2, 1, 1, -1, 0, 0);
    }

    /** One loaf in a place that is not warm enough keeps the whole dough in the oven. */
    private static void promise10TakesOutWholeDoughs() {
        BakeTurns x = Bakery.heated(250);
        x.addKind(200, 300, 5, 0, 40);
        x.addKind(50, 400, 20, 0, 40);
        x.addDough(0, 2, 1);
        x.pass(11);
        Check.same("224", 224, x.whole(3));
        x.addDough(0, 1, 4);
        x.pass(1);
        Check.same("three in band 0, one in band 1", 0x1E, x.dough(1, 8));
        x.pass(4);
        Bakery.placeIs("baked enough", x, 3, 208, 1, 5, 0);
        Bakery.placeIs("too cold since its first tick", x, 4, 188, 1, 1, 0);
        Check.same("still in the oven", 1, x.dough(1, 4));
        x.stoke(0, 1);
        Check.same("nothing yet", 0, x.pass(3));
        Check.same("both at once", 2, x.pass(1));
        Check.same("227 - 2 - 8", 217, x.whole(3));
        Check.same("use", 20 + 4 * 9, x.house(0, 1));
    }

    private static void promise10Refuses() {
        BakeTurns x = new BakeTurns();
        Check.badArgument("no ticks", x, () -> x.pass(0));
        Check.badArgument("101 ticks", x, () -> x.pass(101));
        Check.badArgument("-1", x, () -> x.pass(-1));
        Check.badArgument("far too many", x, () -> x.pass(Integer.MAX_VALUE));
    }

    private static void promise10MostTicks() {
        BakeTurns x = new BakeTurns();
        Bakery.text(x, "pass 100; ".repeat(15));
        for (int i = 0; i < 66; i++) {
            Check.same("a run of 1500 ticks", 15, x.runCommands());
        }
        Check.same("ticks", 99000, x.whole(4));
        Check.same("a run up to the last tick", 10, x.runCommands());
        Check.same("ticks", 100000, x.whole(4));
        Check.badState("one more", x, () -> x.pass(1));
        Check.badArgument("wrong comes first", x, () -> x.pass(101));
        x.addKind(50, 400, 1, 1, 40);
        x.addHouse();
        x.stoke(0, 4);
        x.addDough(0, 0, 1);
        Check.same("loaded beyond", 1, x.loadedIn(0));
        Check.same("heat beyond", 100 - 2 - 4 - 4, x.heatIn(1));
        Check.same("heat far beyond", 90 - 2 * 9, x.heatIn(10));
        Check.same("not spoiled beyond", 0, x.spoiledIn(100));
        x.undo();
        x.undo();
        x.undo();
        x.undo();
        Check.badState("an undone stack", x, x::undo);
        Check.same("ticks stay", 100000, x.whole(4));
    }
}
