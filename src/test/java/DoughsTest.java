/** Promises 1 to 6: a new object, kinds, households, doughs, the line. */
public final class DoughsTest {
    public static void main(String[] args) {
        promise1NewObject();
        promise2AddKind();
        promise2AddKindRefuses();
        promise3AddHouse();
        promise4AddDough();
        promise4AddDoughRefuses();
        promise5ClearDoughs();
        promise5ClearDoughsClosesUpOvenAndLine();
        promise5ClearDoughsKeepsTheFirst();
        promise5ClearDoughsLeavesNothingBehind();
        promise6Swap();
        promise6SwapRefuses();
        Check.end();
    }

    private static void promise1NewObject() {
        BakeTurns x = new BakeTurns();
        Bakery.wholeIs("new", x, 0, 0, 0, 0, 0, 0, 12, 0, 0, 0, 0, 0, 0, 0, 0);
        Bakery.lineIs("new", x);
        for (int p = 0; p < 12; p++) {
            Bakery.placeIs("new", x, p, 0, -1, -1, -1);
        }
        Check.badState("undo of a new object", x, x::undo);
        Check.outOfBounds("no kind", x, () -> x.kind(0, 0));
        Check.outOfBounds("no household", x, () -> x.house(0, 0));
        Check.outOfBounds("no dough", x, () -> x.dough(0, 0));
        Check.same("no commands", 0, x.clearCommands());
        BakeTurns y = new BakeTurns();
        x.addHouse();
        Check.same("objects share nothing", 0, y.whole(1));
    }

    private static void promise2AddKind() {
        BakeTurns x = new BakeTurns();
        int[][] kinds = {{50, 50, 1, 0, 1}, {350, 400, 20, 30, 40}, {350, 350, 1, 0, 1}, {50, 400, 7, 8, 9},
            {123, 234, 5, 6, 11}};
        for (int k = 0; k < 5; k++) {
            int[] v = kinds[k];
            Check.same("addKind", k, x.addKind(v[0], v[1], v[2], v[3], v[4]));
        }
        for (int k = 0; k < 5; k++) {
            for (int i = 0; i < 5; i++) {
                Check.same("kind(" + k + ", " + i + ")", kinds[k][i], x.kind(k, i));
            }
        }
        Check.same("kinds", 5, x.whole(0));
        Check.same("undoable", 3, x.undo());
        Check.same("kinds after undo", 4, x.whole(0));
        Check.outOfBounds("kind after undo", x, () -> x.kind(4, 0));
    }

    private static void promise2AddKindRefuses() {
        BakeTurns x = new BakeTurns();
        int[][] wrong = {{49, 200, 5, 5, 5}, {351, 400, 5, 5, 5}, {200, 199, 5, 5, 5}, {200, 401, 5, 5, 5},
            {200, 300, 0, 5, 5}, {200, 300, 21, 5, 5}, {200, 300, 5, -1, 5}, {200, 300, 5, 31, 5},
            {200, 300, 5, 5, 0}, {200, 300, 5, 5, 41}, {Integer.MIN_VALUE, 300, 5, 5, 5},
            {200, Integer.MAX_VALUE, 5, 5, 5}, {200, 300, Integer.MIN_VALUE, 5, 5}, {200, 300, 5, Integer.MAX_VALUE, 5},
            {200, 300, 5, 5, Integer.MIN_VALUE}};
        for (int[] v : wrong) {
            Check.badArgument("addKind " + v[0] + " " + v[1] + " " + v[2] + " " + v[3] + " " + v[4], x,
                () -> x.addKind(v[0], v[1], v[2], v[3], v[4]));
        }
        for (int k = 0; k < 5; k++) {
            x.addKind(200, 300, 5, 5, 5);
        }
        Check.badState("a sixth kind", x, () -> x.addKind(200, 300, 5, 5, 5));
        Check.badArgument("a sixth kind with a wrong argument", x, () -> x.addKind(49, 300, 5, 5, 5));
    }

    private static void promise3AddHouse() {
        BakeTurns x = new BakeTurns();
        for (int h = 0; h < 8; h++) {
            Check.same("addHouse", h, x.addHouse());
            Bakery.houseIs("new household", x, h, 0, 0, 0, 0, 0, 0, 0);
        }
        Check.badState("a ninth household", x, x::addHouse);
        Check.same("undoable", 3, x.undo());
        Check.same("households", 7, x.whole(1));
        Check.same("its number is free again", 7, x.addHouse());
    }

    private static void promise4AddDough() {
        BakeTurns x = Bakery.plain();
        x.addKind(100, 150, 1, 1, 1);
        Check.same("addDough", 0, x.addDough(1, 0, 4));
        Check.same("addDough", 1, x.addDough(0, 1, 1));
        Bakery.doughIs("first", x, 0, 1, 0, 4, 0, 0, 0, -1, 0, 0, 0);
        Bakery.doughIs("second", x, 1, 0, 1, 1, 0, 0, 0, -1, 1, 0, 0);
        Bakery.lineIs("line", x, 0, 1);
        Check.same("doughs", 2, x.whole(2));
        Check.same("undoable", 3, x.undo());
        Check.same("doughs after undo", 1, x.whole(2));
        Bakery.lineIs("line after undo", x, 0);
    }

    private static void promise4AddDoughRefuses() {
        BakeTurns x = Bakery.plain();
        Check.outOfBounds("household -1", x, () -> x.addDough(-1, 0, 1));
        Check.outOfBounds("household 2", x, () -> x.addDough(2, 0, 1));
        Check.outOfBounds("kind -1", x, () -> x.addDough(0, -1, 1));
        Check.outOfBounds("kind 1", x, () -> x.addDough(0, 1, 1));
        Check.outOfBounds("kind 1 and no loaves", x, () -> x.addDough(0, 1, 0));
        Check.badArgument("no loaves", x, () -> x.addDough(0, 0, 0));
        Check.badArgument("5 loaves", x, () -> x.addDough(0, 0, 5));
        for (int d = 0; d < 16; d++) {
            Check.same("addDough", d, x.addDough(0, 0, 1 + d % 4));
        }
        Check.badState("a 17th dough", x, () -> x.addDough(0, 0, 1));
        Check.badArgument("a 17th dough with 5 loaves", x, () -> x.addDough(0, 0, 5));
        Check.outOfBounds("a 17th dough of no household", x, () -> x.addDough(8, 0, 1));
        Check.outOfBounds("a household far out", x, () -> x.addDough(Integer.MAX_VALUE, Integer.MIN_VALUE, 1));
    }

    private static void promise5ClearDoughs() {
        BakeTurns x = new BakeTurns();
        Check.same("nothing to clear", 0, x.clearDoughs());
        Check.same("saved all the same", 0, x.undo());
        x.addKind(300, 400, 1, 0, 2);
        x.addKind(50, 400, 1, 0, 40);
        x.addHouse();
        x.addHouse();
        x.addDough(0, 0, 1);
        x.addDough(1, 1, 2);
        x.addDough(0, 0, 3);
        x.addDough(1, 1, 4);
        x.pass(2);
        x.addDough(1, 0, 2);
        x.pass(1);
        Check.same("spoiled", 2, x.whole(13));
        Check.same("clearDoughs", 3, x.clearDoughs());
        Bakery.doughIs("closed up", x, 0, 1, 1, 2, 3, 0, 4, -1, 0, 0, 0);
        Bakery.doughIs("closed up", x, 1, 1, 1, 4, 3, 0, 4, -1, 1, 0, 0);
        Bakery.doughIs("closed up", x, 2, 1, 0, 2, 1, 0, 4, -1, 2, 0, 0);
        Bakery.lineIs("closed up", x, 0, 1, 2);
        Check.outOfBounds("the last numbers are gone", x, () -> x.dough(3, 0));
        Check.same("still counted as spoiled", 2, x.whole(13));
        Check.same("no doughs of household 0", 0, x.house(0, 4));
        Check.same("doughs of household 1", 3, x.house(1, 4));
        x.undo();
        Check.same("undone", 5, x.whole(2));
        Check.same("spoiled again", 3, x.dough(2, 4));
    }

    private static void promise5ClearDoughsClosesUpOvenAndLine() {
        BakeTurns x = Bakery.heated(300);
        x.addKind(50, 400, 1, 0, 40);
        x.addDough(0, 1, 1);
        x.addDough(1, 0, 2);
        x.addDough(1, 0, 3);
        x.addDough(0, 0, 4);
        x.swap(2, 3);
        Check.same("done at once", 1, x.pass(1));
        x.pass(1);
        Check.same("in the oven", 1, x.dough(1, 4));
        Check.same("clearDoughs", 3, x.clearDoughs());
        Bakery.doughIs("in the oven", x, 0, 1, 0, 2, 2, 1, 1, 1, -1, 3, 0);
        Bakery.placeIs("its places", x, 0, 283, 0, 1, 0);
        Bakery.placeIs("its places", x, 1, 283, 0, 1, 0);
        Bakery.lineIs("line in its order", x, 2, 1);
        Check.same("it bakes on", 1, x.pass(2));
        Check.same("done", 2, x.dough(0, 4));
        Check.same("clear it too", 2, x.clearDoughs());
        Check.same("its number is given anew", 2, x.addDough(0, 0, 1));
        Bakery.doughIs("as new", x, 2, 0, 0, 1, 0, 0, 0, -1, 0, 0, 0);
    }

    private static void promise5ClearDoughsKeepsTheFirst() {
        BakeTurns x = new BakeTurns();
        x.addKind(50, 400, 1, 0, 40);
        x.addKind(50, 400, 1, 0, 1);
        x.addHouse();
        x.addDough(0, 0, 3);
        x.addDough(0, 1, 2);
        x.pass(2);
        Check.same("one is left", 1, x.clearDoughs());
        Bakery.doughIs("the first", x, 0, 0, 0, 3, 2, 0, 4, -1, 0, 0, 0);
        Check.same("nothing to clear now", 1, x.clearDoughs());
    }

    /** What was burnt, baked and scorched does not come back with a number or a place that is used again. */
    private static void promise5ClearDoughsLeavesNothingBehind() {
        BakeTurns x = Bakery.heated(300);
        x.addKind(250, 301, 5, 0, 40);
        x.addKind(50, 400, 3, 0, 40);
        x.addDough(0, 1, 2);
        x.addDough(1, 0, 1);
        x.pass(1);
        x.stoke(0, 2);
        x.pass(3);
        Check.same("339, 299 in band 2", 0x100, x.dough(1, 8));
        Check.same("done", 1, x.pass(1));
        Check.same("scorched at 343, 341, 339, 333", 2, x.dough(0, 9));
        Check.same("the one in the oven is left", 1, x.clearDoughs());
        Bakery.doughIs("with its own values", x, 0, 1, 0, 1, 4, 1, 5, 3, -1, 0x100, 0);
        Check.same("it alone is done", 1, x.pass(1));
        x.undo();
        Check.same("back to where both are there", 2, x.undo());
        Check.same("it alone is done", 1, x.pass(1));
        Check.same("none left", 0, x.clearDoughs());
        Check.same("number 0 again", 0, x.addDough(1, 2, 4));
        Bakery.doughIs("as new", x, 0, 1, 2, 4, 0, 0, 0, -1, 0, 0, 0);
        x.pass(1);
        Bakery.placeIs("as new", x, 0, 321 - 8, 0, 1, 0);
    }

    private static void promise6Swap() {
        BakeTurns x = Bakery.plain();
        for (int d = 0; d < 4; d++) {
            x.addDough(0, 0, 1);
        }
        Check.same("swap", 3, x.swap(0, 3));
        Bakery.lineIs("swapped", x, 3, 1, 2, 0);
        Check.same("swap", 0, x.swap(1, 3));
        Bakery.lineIs("swapped", x, 1, 3, 2, 0);
        Check.same("swap", 2, x.swap(0, 2));
        Bakery.lineIs("swapped", x, 1, 3, 0, 2);
        Check.same("place in the line", 2, x.dough(0, 7));
        Check.same("undoable", 3, x.undo());
        Bakery.lineIs("undone", x, 1, 3, 2, 0);
    }

    private static void promise6SwapRefuses() {
        BakeTurns x = Bakery.heated(250);
        x.addDough(0, 0, 1);
        x.addDough(0, 0, 1);
        x.addDough(0, 0, 1);
        Check.outOfBounds("dough -1", x, () -> x.swap(-1, 0));
        Check.outOfBounds("dough 3", x, () -> x.swap(3, 0));
        Check.outOfBounds("other -1", x, () -> x.swap(0, -1));
        Check.outOfBounds("other 3", x, () -> x.swap(0, 3));
        Check.outOfBounds("both the same, none there", x, () -> x.swap(3, 3));
        Check.badArgument("both the same", x, () -> x.swap(1, 1));
        x.pass(1);
        Check.badState("first is in the oven", x, () -> x.swap(0, 1));
        Check.badState("second is in the oven", x, () -> x.swap(1, 0));
        Check.badArgument("both the same, in the oven", x, () -> x.swap(0, 0));
        Check.same("the others can", 1, x.swap(1, 2));
    }
}
