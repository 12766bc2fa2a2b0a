/** Promises 17 to 22: what if, which changes nothing. */
public final class WhatIfTest {
    public static void main(String[] args) {
        promise17Reason();
        promise18LoadedIn();
        promise18LoadedInTheLastTick();
        promise19NeededLogs();
        promise19NeededLogsWithFullBands();
        promise19NeededLogsAtMost16();
        promise20HeatIn();
        promise21SpoiledIn();
        promise22Owes();
        Check.end();
    }

    private static void promise17Reason() {
        BakeTurns x = Bakery.plain();
        x.addKind(200, 300, 3, 2, 40);
        x.addDough(0, 0, 4);
        x.addDough(0, 1, 4);
        x.addDough(0, 0, 4);
        x.addDough(0, 0, 4);
        x.addDough(0, 0, 1);
        Check.same("cold", 4, x.reason(0));
        Check.same("not ripe comes first", 2, x.reason(1));
        Bakery.stokeTo(x, 0, 400);
        Check.same("band 2 has 360", 5, x.reason(0));
        Check.same("stored is none yet", 0, x.dough(0, 5));
        x.pass(30);
        Check.same("340: 300 in band 2", 0, x.reason(0));
        Check.same("if it alone was looked at", 0, x.reason(4));
        x.pass(1);
        Check.same("in the oven", -1, x.reason(0));
        Check.same("332, 312, 292: band 2 is full", 5, x.reason(1));
        x.pass(2);
        Check.same("done", 2, x.dough(0, 4));
        Check.same("done does not wait", -1, x.reason(0));
        Check.outOfBounds("dough -1", x, () -> x.reason(-1));
        Check.outOfBounds("dough 5", x, () -> x.reason(5));
        BakeTurns y = Bakery.heated(300);
        for (int d = 0; d < 4; d++) {
            y.addDough(0, 0, 3 + d / 2);
        }
        y.addKind(200, 300, 20, 0, 1);
        y.addDough(1, 1, 2);
        y.pass(3);
        Check.same("spoiled", 3, y.dough(4, 4));
        Check.same("spoiled does not wait", -1, y.reason(4));
        Check.same("done does not wait", -1, y.reason(0));
        BakeTurns z = Bakery.heated(300);
        z.addKind(200, 300, 20, 0, 40);
        for (int d = 0; d < 4; d++) {
            z.addDough(0, 1, 3);
        }
        z.addDough(0, 1, 1);
        z.pass(3);
        Check.same("three free places", 3, z.whole(6));
        z.pass(1);
        Check.same("no room", 3, z.reason(4));
    }

    private static void promise18LoadedIn() {
        BakeTurns x = Bakery.heated(300);
        x.addKind(200, 300, 20, 3, 40);
        x.addKind(350, 400, 1, 0, 2);
        x.addDough(0, 1, 4);
        x.addDough(0, 0, 4);
        x.addDough(0, 0, 4);
        x.addDough(0, 2, 1);
        Check.same("when ripe", 3, x.loadedIn(0));
        Check.same("at once", 1, x.loadedIn(1));
        Check.same("then", 2, x.loadedIn(2));
        Check.same("spoils first", -1, x.loadedIn(3));
        Check.same("ticks", 0, x.whole(4));
        x.pass(1);
        Check.same("in the oven", -1, x.loadedIn(1));
        Check.same("then", 1, x.loadedIn(2));
        x.pass(2);
        Check.same("spoiled", -1, x.loadedIn(3));
        Check.same("done", 2, x.dough(1, 4));
        Check.same("done", -1, x.loadedIn(1));
        Check.outOfBounds("dough -1", x, () -> x.loadedIn(-1));
        Check.outOfBounds("dough 4", x, () -> x.loadedIn(4));
        BakeTurns y = Bakery.heated(300);
        y.addKind(50, 400, 1, 0, 40);
        y.addDough(0, 1, 1);
        Check.same("loaded and done in one tick", 1, y.loadedIn(0));
    }

    /** From 400 the heat falls by 2 in a tick, so that a kind for 282 at most is loaded in the 60th. */
    private static void promise18LoadedInTheLastTick() {
        for (int greatest = 240; greatest <= 244; greatest++) {
            BakeTurns x = new BakeTurns();
            x.addKind(50, greatest, 1, 30, 40);
            x.addHouse();
            x.stoke(0, 16);
            x.addDough(0, 0, 1);
            // in tick n the heat is 402 - 2 * n, and 40 less in band 2
            int due = (362 - greatest + 1) / 2;
            Check.same("greatest heat " + greatest, due > 60 ? -1 : due, x.loadedIn(0));
        }
    }

    private static void promise19NeededLogs() {
        BakeTurns x = Bakery.plain();
        x.addKind(350, 400, 1, 0, 40);
        x.addKind(200, 200, 1, 0, 40);
        x.addKind(200, 300, 1, 1, 40);
        x.addKind(331, 334, 1, 0, 40);
        x.addDough(0, 0, 4);
        x.addDough(0, 1, 4);
        x.addDough(0, 2, 4);
        x.addDough(0, 3, 4);
        x.addDough(0, 4, 1);
        Check.same("200", 8, x.neededLogs(0));
        Check.same("350", 14, x.neededLogs(1));
        Check.same("just 200", 8, x.neededLogs(2));
        Check.same("not ripe", -1, x.neededLogs(3));
        Check.same("330 and 335 can be had, but nothing between", -1, x.neededLogs(4));
        Check.same("heat as it was", 0, x.whole(3));
        x.stoke(0, 8);
        Check.same("none", 0, x.neededLogs(0));
        Check.same("350", 6, x.neededLogs(1));
        x.stoke(0, 8);
        Check.same("360 in band 2, above 300", -1, x.neededLogs(0));
        Check.same("400", 0, x.neededLogs(1));
        x.pass(1);
        Check.same("in the oven or done", -1, x.neededLogs(1));
        Check.outOfBounds("dough -1", x, () -> x.neededLogs(-1));
        Check.outOfBounds("dough 5", x, () -> x.neededLogs(5));
    }

    private static void promise19NeededLogsWithFullBands() {
        BakeTurns x = new BakeTurns();
        x.addKind(350, 400, 20, 0, 40);
        x.addHouse();
        for (int d = 0; d < 4; d++) {
            x.addDough(0, 0, 4);
        }
        x.stoke(0, 16);
        x.pass(1);
        Check.same("392: 372 in band 1", 0, x.neededLogs(1));
        x.pass(1);
        Check.same("384: 344 in band 2, but no log more", -1, x.neededLogs(3));
        x.pass(7);
        Check.same("370: one log more", 1, x.neededLogs(3));
        Check.same("as if it alone was looked at", 1, x.neededLogs(2));
        x.pass(100);
        Check.same("spoiled", -1, x.neededLogs(2));
    }

    private static void promise19NeededLogsAtMost16() {
        BakeTurns x = new BakeTurns();
        x.addKind(60, 400, 20, 0, 40);
        x.addKind(350, 400, 1, 0, 40);
        x.addKind(340, 400, 1, 0, 40);
        x.addHouse();
        x.stoke(0, 4);
        x.addDough(0, 0, 4);
        x.addDough(0, 0, 4);
        x.pass(100);
        Check.same("bands 0 and 1 are full", 4, x.whole(6));
        Check.same("cold", 0, x.whole(3));
        x.addDough(0, 1, 4);
        x.addDough(0, 2, 4);
        Check.same("350 in band 2", 16, x.neededLogs(2));
        Check.same("though its household has not so many", 16, x.neededLogs(3));
        x.stoke(0, 1);
        Check.same("one less", 15, x.neededLogs(2));
        x.pass(1);
        Check.same("23 and 15 logs are 398", 15, x.neededLogs(2));
        x.pass(5);
        Check.same("13 and 15 logs are 388, 348 in band 2", -1, x.neededLogs(2));
        Check.same("348 in band 2 is enough", 15, x.neededLogs(3));
    }

    private static void promise20HeatIn() {
        BakeTurns x = Bakery.heated(300);
        x.addDough(0, 0, 4);
        Check.same("now", 300, x.heatIn(0));
        Check.same("loaded", 292, x.heatIn(1));
        Check.same("baked", 290, x.heatIn(2));
        Check.same("taken out", 284, x.heatIn(3));
        Check.same("then", 282, x.heatIn(4));
        Check.same("long after", 284 - 2 * 97, x.heatIn(100));
        Check.same("still waits", 0, x.dough(0, 4));
        Check.same("ticks", 0, x.whole(4));
        Check.same("openings", 0, x.whole(11));
        Check.badArgument("-1", x, () -> x.heatIn(-1));
        Check.badArgument("101", x, () -> x.heatIn(101));
        Check.same("cold", 0, new BakeTurns().heatIn(100));
    }

    private static void promise21SpoiledIn() {
        BakeTurns x = Bakery.heated(300);
        x.addKind(350, 400, 3, 0, 1);
        x.addKind(350, 400, 3, 1, 1);
        x.addDough(0, 1, 1);
        x.addDough(0, 2, 1);
        x.addDough(0, 0, 1);
        x.addDough(0, 1, 1);
        Check.same("now", 0, x.spoiledIn(0));
        Check.same("still good", 0, x.spoiledIn(1));
        Check.same("two", 9, x.spoiledIn(2));
        Check.same("three", 11, x.spoiledIn(3));
        Check.same("the other is baked", 11, x.spoiledIn(100));
        x.pass(2);
        Check.same("only those that wait now", 2, x.spoiledIn(1));
        Check.same("only those that wait now", 0, x.spoiledIn(0));
        Check.same("spoiled in all", 2, x.whole(13));
        Check.badArgument("-1", x, () -> x.spoiledIn(-1));
        Check.badArgument("101", x, () -> x.spoiledIn(101));
        BakeTurns y = Bakery.plain();
        for (int d = 0; d < 16; d++) {
            y.addDough(0, 0, 1);
        }
        Check.same("all but none", 0, y.spoiledIn(40));
        Check.same("all", 0xFFFF, y.spoiledIn(41));
    }

    private static void promise22Owes() {
        BakeTurns x = Bakery.heated(300);
        Check.same("no use", 0, x.owes(0));
        x.addDough(1, 0, 2);
        x.addDough(0, 0, 1);
        x.pass(1);
        Check.same("no use", 0, x.owes(0));
        Check.same("all use", 12, x.owes(1));
        x.pass(1);
        // 12 logs by uses 1 and 4: 2 rest 2, 9 rest 3
        Check.same("smaller remainder", 2, x.owes(0));
        Check.same("greater remainder", 10, x.owes(1));
        Check.same("nothing is settled", 12, x.whole(7));
        Check.outOfBounds("household -1", x, () -> x.owes(-1));
        Check.outOfBounds("household 2", x, () -> x.owes(2));
        x.settle();
        Check.same("settled", 0, x.owes(1));
    }
}
