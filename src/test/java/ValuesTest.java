/** Promises 11 to 16: the values. */
public final class ValuesTest {
    public static void main(String[] args) {
        promise11Kind();
        promise12House();
        promise13Dough();
        promise14Place();
        promise15Whole();
        promise16Line();
        valuesSaveNothing();
        Check.end();
    }

    private static void promise11Kind() {
        BakeTurns x = new BakeTurns();
        Check.outOfBounds("no kind", x, () -> x.kind(0, 0));
        x.addKind(101, 202, 3, 4, 5);
        x.addKind(111, 222, 13, 14, 15);
        int[] first = {101, 202, 3, 4, 5};
        int[] second = {111, 222, 13, 14, 15};
        for (int i = 0; i < 5; i++) {
            Check.same("kind(0, " + i + ")", first[i], x.kind(0, i));
            Check.same("kind(1, " + i + ")", second[i], x.kind(1, i));
        }
        Check.outOfBounds("kind -1", x, () -> x.kind(-1, 0));
        Check.outOfBounds("kind 2", x, () -> x.kind(2, 0));
        Check.outOfBounds("kind 2, wrong what", x, () -> x.kind(2, 5));
        Check.badArgument("what -1", x, () -> x.kind(0, -1));
        Check.badArgument("what 5", x, () -> x.kind(1, 5));
        Check.outOfBounds("far out", x, () -> x.kind(Integer.MIN_VALUE, Integer.MAX_VALUE));
    }

    private static void promise12House() {
        BakeTurns x = Bakery.heated(350);
        x.addKind(100, 200, 3, 0, 1);
        x.addKind(200, 300, 4, 0, 40);
        x.addDough(0, 1, 1);
        x.addDough(0, 2, 2);
        x.addDough(1, 0, 2);
        // 350, 330, 310: none fits for either kind; the first spoils in tick 2
        x.pass(2);
        Check.same("spoiled", 1, x.whole(13));
        // 346, 326, 306: band 2 fits from 340 on
        x.pass(3);
        Check.same("340, loaded next", 340, x.whole(3));
        x.pass(1);
        Check.same("band 2", 0x300, x.dough(1, 8));
        x.stoke(1, 2);
        x.pass(4);
        Bakery.houseIs("household 0", x, 0, 85, 8, 14, 99, 2, 2, 2);
        Bakery.houseIs("household 1", x, 1, 97, 0, 2, 99, 1, 0, 0);
        Check.outOfBounds("household -1", x, () -> x.house(-1, 0));
        Check.outOfBounds("household 2", x, () -> x.house(2, 0));
        Check.outOfBounds("household 2, wrong what", x, () -> x.house(2, 7));
        Check.badArgument("what -1", x, () -> x.house(0, -1));
        Check.badArgument("what 7", x, () -> x.house(1, 7));
    }

    private static void promise13Dough() {
        BakeTurns x = Bakery.heated(250);
        x.addKind(50, 400, 1, 0, 40);
        x.addDough(1, 0, 3);
        x.addDough(0, 1, 2);
        x.addDough(0, 0, 1);
        Bakery.doughIs("waits", x, 2, 0, 0, 1, 0, 0, 0, -1, 2, 0, 0);
        x.pass(1);
        Bakery.doughIs("in the oven", x, 0, 1, 0, 3, 1, 1, 0, 0, -1, 7, 0);
        Bakery.doughIs("waits behind", x, 1, 0, 1, 2, 1, 0, 1, -1, 0, 0, 0);
        Bakery.doughIs("waits behind", x, 2, 0, 0, 1, 1, 0, 1, -1, 1, 0, 0);
        x.pass(1);
        Bakery.doughIs("done", x, 1, 0, 1, 2, 2, 2, 1, 1, -1, 0, 0);
        x.pass(1);
        Bakery.doughIs("loaded in the third tick", x, 2, 0, 0, 1, 3, 1, 1, 2, -1, 8, 0);
        Check.outOfBounds("dough -1", x, () -> x.dough(-1, 0));
        Check.outOfBounds("dough 3", x, () -> x.dough(3, 0));
        Check.outOfBounds("dough 3, wrong what", x, () -> x.dough(3, 10));
        Check.badArgument("what -1", x, () -> x.dough(0, -1));
        Check.badArgument("what 10", x, () -> x.dough(2, 10));
    }

    private static void promise14Place() {
        BakeTurns x = Bakery.plain();
        Bakery.stokeTo(x, 0, 25);
        int[] cold = {25, 25, 25, 25, 5, 5, 5, 5, 0, 0, 0, 0};
        for (int p = 0; p < 12; p++) {
            Bakery.placeIs("nearly cold", x, p, cold[p], -1, -1, -1);
        }
        Bakery.stokeTo(x, 0, 300);
        x.addDough(0, 0, 1);
        x.addDough(0, 0, 2);
        x.pass(2);
        Bakery.placeIs("baked twice", x, 0, 287, 0, 2, 0);
        Bakery.placeIs("baked once", x, 1, 287, 1, 1, 0);
        Bakery.placeIs("baked once", x, 2, 287, 1, 1, 0);
        Bakery.placeIs("free", x, 3, 287, -1, -1, -1);
        x.stoke(0, 4);
        x.addDough(0, 0, 4);
        x.pass(1);
        Bakery.placeIs("taken out", x, 0, 381, -1, -1, -1);
        Bakery.placeIs("scorched at 387", x, 2, 381, 1, 2, 1);
        Check.outOfBounds("place -1", x, () -> x.place(-1, 0));
        Check.outOfBounds("place 12", x, () -> x.place(12, 0));
        Check.outOfBounds("place 12, wrong what", x, () -> x.place(12, 4));
        Check.badArgument("what -1", x, () -> x.place(0, -1));
        Check.badArgument("what 4, loaf", x, () -> x.place(1, 4));
        Check.badArgument("what 4, free", x, () -> x.place(11, 4));
    }

    private static void promise15Whole() {
        BakeTurns x = Bakery.heated(300);
        x.addKind(50, 60, 1, 0, 1);
        x.addHouse();
        x.addDough(0, 0, 4);
        x.addDough(2, 1, 1);
        x.addDough(1, 0, 1);
        x.addDough(1, 0, 3);
        Bakery.text(x, "house");
        x.pass(1);
        Bakery.wholeIs("one tick", x, 2, 3, 4, 292, 1, 3, 8, 12, 4, 12, 198, 1, 0, 0, 5);
        x.pass(2);
        Bakery.wholeIs("three ticks", x, 2, 3, 4, 292 - 6 - 11, 3, 0, 8, 12, 4 + 5 + 8, 12, 198, 4, 4, 1, 5);
        x.settle();
        x.bring(2, 1);
        x.clearCommands();
        Bakery.wholeIs("settled", x, 2, 3, 4, 275, 3, 0, 8, 0, 0, 12, 199, 4, 4, 1, 0);
        Check.badArgument("what -1", x, () -> x.whole(-1));
        Check.badArgument("what 15", x, () -> x.whole(15));
        Check.badArgument("what far out", x, () -> x.whole(Integer.MIN_VALUE));
    }

    private static void promise16Line() {
        BakeTurns x = Bakery.plain();
        Check.same("nobody", -1, x.line(0));
        for (int d = 0; d < 16; d++) {
            x.addDough(0, 0, 1);
        }
        x.swap(15, 0);
        Check.same("front", 15, x.line(0));
        Check.same("end", 0, x.line(15));
        Check.same("behind the end", -1, x.line(16));
        Check.same("far behind the end", -1, x.line(Integer.MAX_VALUE));
        Check.badArgument("index -1", x, () -> x.line(-1));
        Check.badArgument("index far out", x, () -> x.line(Integer.MIN_VALUE));
        x.pass(40);
        Check.same("a full line of doughs that wait in the cold", 16, x.whole(5));
        x.pass(1);
        Bakery.lineIs("all spoiled", x);
    }

    private static void valuesSaveNothing() {
        BakeTurns x = new BakeTurns();
        x.addKind(200, 300, 3, 0, 40);
        x.addHouse();
        x.addDough(0, 0, 1);
        long before = x.digest();
        x.kind(0, 0);
        x.house(0, 0);
        x.dough(0, 0);
        x.place(0, 0);
        x.whole(0);
        x.line(0);
        x.reason(0);
        x.loadedIn(0);
        x.neededLogs(0);
        x.heatIn(100);
        x.spoiledIn(100);
        x.owes(0);
        Check.same("nothing changed", before, x.digest());
        Check.same("three are saved", 2, x.undo());
    }
}
