/** Objects that several tests begin with, and short ways to type texts and to read doughs and places. */
final class Bakery {
    private Bakery() {
    }

    /** One kind (200 to 300 degrees, 3 ticks to bake, ripe at once, keeps 40 ticks), two households with 99 logs. */
    static BakeTurns plain() {
        BakeTurns x = new BakeTurns();
        x.addKind(200, 300, 3, 0, 40);
        x.addHouse();
        x.addHouse();
        x.bring(0, 99);
        x.bring(1, 99);
        return x;
    }

    /** As plain(), with the oven at a heat that logs can make. */
    static BakeTurns heated(int heat) {
        BakeTurns x = plain();
        stokeTo(x, 0, heat);
        return x;
    }

    static void stokeTo(BakeTurns x, int house, int heat) {
        int logs = (heat - x.whole(3)) / 25;
        if (logs > 0) {
            x.stoke(house, logs);
        }
    }

    static void text(BakeTurns x, String text) {
        x.clearCommands();
        for (int i = 0; i < text.length(); i++) {
            x.type(text.charAt(i));
        }
    }

    static int run(BakeTurns x, String text) {
        text(x, text);
        return x.runCommands();
    }

    /** The values 0 to 9 of a dough must be these. */
    static void doughIs(String what, BakeTurns x, int dough, int... due) {
        for (int i = 0; i < due.length; i++) {
            Check.same(what + ": dough(" + dough + ", " + i + ")", due[i], x.dough(dough, i));
        }
    }

    static void houseIs(String what, BakeTurns x, int house, int... due) {
        for (int i = 0; i < due.length; i++) {
            Check.same(what + ": house(" + house + ", " + i + ")", due[i], x.house(house, i));
        }
    }

    static void placeIs(String what, BakeTurns x, int place, int... due) {
        for (int i = 0; i < due.length; i++) {
            Check.same(what + ": place(" + place + ", " + i + ")", due[i], x.place(place, i));
        }
    }

    static void wholeIs(String what, BakeTurns x, int... due) {
        for (int i = 0; i < due.length; i++) {
            Check.same(what + ": whole(" + i + ")", due[i], x.whole(i));
        }
    }

    static void lineIs(String what, BakeTurns x, int... due) {
        for (int i = 0; i < due.length; i++) {
            Check.same(what + ": line(" + i + ")", due[i], x.line(i));
        }
        Check.same(what + ": line behind its end", BakeTurns.NONE, x.line(due.length));
        Check.same(what + ": whole(5)", due.length, x.whole(5));
    }
}
