/** Objects that several tests begin with, and short ways to type texts and to compare many values. */
final class Bakery {
    private Bakery() {
    }

    /** One kind (200 to 300 degrees, 3 ticks to bake, ripe at once, keeps 40 ticks), two households with 99 logs. */
    static BakeTurns plain() {
        return with(0, new int[] {200, 300, 3, 0, 40});
    }

    /** As plain(), with the oven at a heat that logs can make. */
    static BakeTurns heated(int heat) {
        return with(heat, new int[] {200, 300, 3, 0, 40});
    }

    /** These kinds, two households with 99 logs each, of which the first stokes the oven to this heat. */
    static BakeTurns with(int heat, int[]... kinds) {
        BakeTurns x = new BakeTurns();
        for (int[] v : kinds) {
            x.addKind(v[0], v[1], v[2], v[3], v[4]);
        }
        x.addHouse();
        x.addHouse();
        x.bring(0, 99);
        x.bring(1, 99);
        stokeTo(x, 0, heat);
        return x;
    }

    static void stokeTo(BakeTurns x, int house, int heat) {
        int logs = (heat - x.whole(3)) / 25;
        if (logs > 0) {
            x.stoke(house, logs);
        }
    }

    static void doughs(BakeTurns x, int number, int house, int kind, int loaves) {
        for (int i = 0; i < number; i++) {
            x.addDough(house, kind, loaves);
        }
    }

    /** A new object that has run these texts, each of which has saved one state; its text is empty then. */
    static BakeTurns ofTexts(String... texts) {
        BakeTurns x = new BakeTurns();
        for (String text : texts) {
            Check.same("\"" + text + "\"", text.split(";").length, run(x, text));
        }
        x.clearCommands();
        return x;
    }

    /** Lets a new object come to this tick; its text is empty then. */
    static void toTick(BakeTurns x, int tick) {
        text(x, "pass 100;".repeat(16));
        for (int i = 0; i < tick / 1600; i++) {
            x.runCommands();
        }
        x.clearCommands();
        for (int left = tick % 1600; left > 0; left -= 100) {
            x.pass(Math.min(100, left));
        }
        Check.same("ticks", tick, x.whole(4));
    }

    static void text(BakeTurns x, String text) {
        x.clearCommands();
        for (int i = 0; i < text.length(); i++) {
            x.type(text.charAt(i));
        }
    }

    static int run(BakeTurns x, String text) {
        text(x, text);
        return x.runCommands();
    }

    // ---- many values at once

    /** The values 0 to 9 of a dough must be these. */
    static void doughIs(String what, BakeTurns x, int dough, int... due) {
        for (int i = 0; i < due.length; i++) {
            Check.same(what + ": dough(" + dough + ", " + i + ")", due[i], x.dough(dough, i));
        }
    }

    static void houseIs(String what, BakeTurns x, int house, int... due) {
        for (int i = 0; i < due.length; i++) {
            Check.same(what + ": house(" + house + ", " + i + ")", due[i], x.house(house, i));
        }
    }

    static void placeIs(String what, BakeTurns x, int place, int... due) {
        for (int i = 0; i < due.length; i++) {
            Check.same(what + ": place(" + place + ", " + i + ")", due[i], x.place(place, i));
        }
    }

    static void wholeIs(String what, BakeTurns x, int... due) {
        for (int i = 0; i < due.length; i++) {
            Check.same(what + ": whole(" + i + ")", due[i], x.whole(i));
        }
    }

    static void lineIs(String what, BakeTurns x, int... due) {
        for (int i = 0; i < due.length; i++) {
            Check.same(what + ": line(" + i + ")", due[i], x.line(i));
        }
        Check.same(what + ": line behind its end", BakeTurns.NONE, x.line(due.length));
        Check.same(what + ": whole(5)", due.length, x.whole(5));
    }

    /** One value of the doughs from 0 on: 3 age, 4 state, 5 reason, 6 tick of loading, 8 set of places. */
    static void doughsAre(String what, BakeTurns x, int value, int... due) {
        for (int d = 0; d < due.length; d++) {
            Check.same(what + ": dough(" + d + ", " + value + ")", due[d], x.dough(d, value));
        }
    }

    // ---- the hash of the document, and what is saved

    /** The hash as the document tells it, of the public values. */
    static long hashOf(BakeTurns x, int states) {
        long h = 31 * 43350L + states;
        for (int i = 0; i <= 14; i++) {
            h = 31 * h + x.whole(i);
        }
        for (int k = 0; k < x.whole(0); k++) {
            for (int i = 0; i <= 4; i++) {
                h = 31 * h + x.kind(k, i);
            }
        }
        for (int n = 0; n < x.whole(1); n++) {
            for (int i = 0; i <= 6; i++) {
                h = 31 * h + x.house(n, i);
            }
            h = 31 * h + x.owes(n);
        }
        for (int d = 0; d < x.whole(2); d++) {
            for (int i = 0; i <= 9; i++) {
                h = 31 * h + x.dough(d, i);
            }
            h = 31 * h + x.reason(d);
        }
        for (int p = 0; p <= 11; p++) {
            for (int i = 0; i <= 3; i++) {
                h = 31 * h + x.place(p, i);
            }
        }
        for (int i = 0; i < x.whole(5); i++) {
            h = 31 * h + x.line(i);
        }
        return 31 * h + x.heatIn(10);
    }

    /** The number of states on the undo stack, as the hash shows it; -1 if it shows none of 0 to 4. */
    static int states(BakeTurns x) {
        for (int n = 0; n <= 4; n++) {
            if (hashOf(x, n) == x.digest()) {
                return n;
            }
        }
        return -1;
    }

    /** The call saves one state, the one from before it, which undo() brings back. */
    static void undoable(String what, BakeTurns x, Runnable call) {
        long before = hashOf(x, 0);
        int due = Math.min(states(x) + 1, 4);
        call.run();
        Check.same(what + ": states on the stack", due, states(x));
        Check.same(what + ": states after undo", due - 1, x.undo());
        Check.same(what + ": all as before", before, hashOf(x, 0));
    }

    static void savesNothing(String what, BakeTurns x, Runnable call) {
        int before = states(x);
        call.run();
        Check.same(what + ": states on the stack", before, states(x));
    }
}
