/** Promises 23 to 27: the command text, undo, the digest. */
public final class CommandsTest {
    public static void main(String[] args) {
        promise23Type();
        promise24ClearCommands();
        promise25RunsEveryCommand();
        promise25StopsAtTheFirstThatWouldThrow();
        promise25Faults();
        promise25OneTextAfterAnother();
        promise25TextsWithoutFault();
        promise25SavesOneState();
        promise26Undo();
        promise26UndoBringsAllBack();
        promise26UndoKeepsTheText();
        promise27Digest();
        Check.end();
    }

    private static void promise23Type() {
        BakeTurns x = new BakeTurns();
        Check.badArgument("-1", x, () -> x.type(-1));
        Check.badArgument("128", x, () -> x.type(128));
        Check.same("byte 0", 1, x.type(0));
        Check.same("byte 127", 2, x.type(127));
        for (int i = 3; i <= 150; i++) {
            Check.same("type", i, x.type(' '));
        }
        Check.badState("a 151st byte", x, () -> x.type(' '));
        Check.badArgument("a wrong 151st byte", x, () -> x.type(128));
        Check.same("length", 150, x.whole(14));
        Check.badState("typing is not undoable", x, x::undo);
        Check.same("fault", -10, x.runCommands());
    }

    private static void promise24ClearCommands() {
        BakeTurns x = new BakeTurns();
        Check.same("empty", 0, x.clearCommands());
        Bakery.text(x, "house;;");
        Check.same("clearCommands", 7, x.clearCommands());
        Check.same("length", 0, x.whole(14));
        Check.same("clearCommands again", 0, x.clearCommands());
        Check.badState("not undoable", x, x::undo);
        Check.same("an empty text", 0, x.runCommands());
        Check.same("households", 0, x.whole(1));
        x.type('h');
        Check.same("typed anew from its start", -10, x.runCommands());
    }

    private static void promise25RunsEveryCommand() {
        BakeTurns x = new BakeTurns();
        Check.same("run", 9, Bakery.run(x,
            "kind 200 300 3 0 40;house;house;bring 0 99;stoke 0 12;dough 1 0 2;dough 0 0 1;swap 0 1;pass 3;"));
        Bakery.wholeIs("all", x, 1, 2, 2, 294 - 7 - 6, 3, 0, 10, 12, 1 + 3 + 3, 12, 99, 3, 1, 0, 94);
        Check.same("swapped", 0, x.dough(1, 6));
        Check.same("run", 1, Bakery.run(x, "settle;"));
        Check.same("settled", 0, x.whole(8));
        Check.same("the text stays", 7, x.whole(14));
        Check.same("zeros in front", 2, Bakery.run(x, "bring 001 007; bring 0 010;"));
        Check.same("balance", 7 - 7, x.house(1, 0));
        Check.same("25 commands", 8 - 2, Bakery.run(x, "house;".repeat(25)));
        Check.same("kinds to their limit", 4, Bakery.run(x, "kind 50 400 1 0 1;".repeat(5)));
        Check.same("150 bytes", 16, Bakery.run(x, "pass 100;".repeat(16)));
    }

    private static void promise25StopsAtTheFirstThatWouldThrow() {
        String good = "house;";
        String[] bad = {"kind 49 300 3 0 40;", "kind 200 300 3 31 40;", "kind 200 300 21 0 40;", "kind 200 199 3 0 40;", "kind 200 300 3 0 999;", "dough 0 0 1;", "dough 9 0 1;", "bring 1 1;",
            "bring 0 0;", "bring 0 100;", "stoke 0 0;", "stoke 0 17;", "stoke 1 1;", "pass 0;", "pass 101;", "swap 0 1;",
            "swap 0 0;"};
        for (String command : bad) {
            BakeTurns x = new BakeTurns();
            Check.same(command, 1, Bakery.run(x, good + command + "house; house;"));
            Check.same(command + " stays done what was ahead", 1, x.whole(1));
            Check.same(command + " one state is saved", 0, x.undo());
            Check.same(command + " is undone", 0, x.whole(1));
        }
        BakeTurns x = new BakeTurns();
        Check.same("the first of all", 0, Bakery.run(x, "bring 0 1; house;"));
        Check.same("nothing done", 0, x.whole(1));
        Check.same("saved all the same", 0, x.undo());
        Check.same("a state that refuses", 3, Bakery.run(x, "house;stoke 0 16;pass 1;stoke 0 1;"));
    }

    private static void fault(String text, int due) {
        BakeTurns x = new BakeTurns();
        int got = Bakery.run(x, text);
        Check.same("fault of \"" + text + "\"", -10 - due, got);
        Check.same("nothing done by \"" + text + "\"", 0, x.whole(1));
        Check.badState("nothing saved by \"" + text + "\"", x, x::undo);
    }

    private static void promise25Faults() {
        fault(";", 0);
        fault(" ;", 1);
        fault("1", 0);
        fault("house;;", 6);
        fault("House;", 0);
        fault("hous", 0);
        fault("hous;", 0);
        fault("house;hous;", 6);
        fault("house; housee;", 7);
        fault("house", 5);
        fault("house ", 6);
        fault("house  x", 7);
        fault("house1;", 5);
        fault("house 1;", 6);
        fault("houseA;", 5);
        fault("ho;use;", 0);
        fault("ho use;", 0);
        fault("xyz", 0);
        fault("house;xyz", 6);
        fault("pass", 4);
        fault("pass;", 4);
        fault("pass ", 5);
        fault("pass ;", 5);
        fault("pass1;", 4);
        fault("pass 1", 6);
        fault("pass 1 ", 7);
        fault("pass 1 2;", 7);
        fault("pass 1000;", 8);
        fault("pass 0001;", 8);
        fault("pass 12a;", 7);
        fault("pass a;", 5);
        fault("pass -1;", 5);
        fault("swap 1;", 6);
        fault("swap 1 ;", 7);
        fault("swap 1234 5;", 8);
        fault("swap 1,2;", 6);
        fault("settle 1;", 7);
        fault("dough 1 2;", 9);
        fault("dough 1 2 3 4;", 12);
        fault("kind 1 2 3 4;", 12);
        fault("kind 1 2 3 4 5", 14);
        fault("kind 1 2 3 4 5 6;", 15);
        fault("house;\0", 6);
        fault("house\t;", 5);
        fault("house;`", 6);
        fault("house;{", 6);
        fault("pass 1/;", 6);
        fault("pass 1:;", 6);
        fault("abcdefghijklmnopqrstuvwxyz;", 0);
        fault("passpass 1;", 0);
        fault("pas s 1;", 0);
        fault("bring 0;", 7);
        fault("housez;", 0);
        fault("azhouse;", 0);
        fault("mouse;", 0);
        fault("pass;house 1;", 4);
        fault("x;house 1;", 0);
        fault("pass house;x", 5);
        fault("stoke 0;", 7);
        fault("house;".repeat(24) + "house", 149);
        fault(" ".repeat(149) + "x", 149);
    }

    /** Nothing of an earlier text is left. */
    private static void promise25OneTextAfterAnother() {
        BakeTurns x = new BakeTurns();
        Check.same("a fault", -10, Bakery.run(x, "hause;house;"));
        Check.same("no fault any more", 1, Bakery.run(x, "house;"));
        Check.same("shorter", -15, Bakery.run(x, "house"));
        Check.same("shorter", -10, Bakery.run(x, "hous"));
        Check.same("empty", 0, Bakery.run(x, ""));
        Check.same("completed", 1, Bakery.run(x, "house;"));
        x.type(' ');
        Check.same("run again", 1, x.runCommands());
        x.type('x');
        Check.same("faulty at its end", -17, x.runCommands());
        Check.same("households", 3, x.whole(1));
    }

    private static void promise25TextsWithoutFault() {
        String[] texts = {"", " ", " ".repeat(150), "house;", " house ;", "  house  ;  ", "house ; house;",
            "bring   0    1  ;"};
        int[] due = {0, 0, 0, 1, 1, 1, 2, 0};
        for (int i = 0; i < texts.length; i++) {
            BakeTurns x = new BakeTurns();
            Check.same("\"" + texts[i] + "\"", due[i], Bakery.run(x, texts[i]));
            Check.same("\"" + texts[i] + "\" saves a state", 0, x.undo());
        }
    }

    private static void promise25SavesOneState() {
        BakeTurns x = new BakeTurns();
        x.addHouse();
        Check.same("run", 5, Bakery.run(x, "house;house;house;house;settle;"));
        Check.same("households", 5, x.whole(1));
        Check.same("one state", 1, x.undo());
        Check.same("undone at once", 1, x.whole(1));
        Check.same("the state before the household", 0, x.undo());
        Check.same("none", 0, x.whole(1));
    }

    private static void promise26Undo() {
        BakeTurns x = new BakeTurns();
        Check.badState("nothing to undo", x, x::undo);
        for (int i = 0; i < 7; i++) {
            x.addHouse();
        }
        for (int i = 3; i >= 0; i--) {
            Check.same("undo", i, x.undo());
            Check.same("households", 3 + i, x.whole(1));
        }
        Check.badState("the older are dropped", x, x::undo);
        x.addHouse();
        Check.same("again", 0, x.undo());
        Check.same("households", 3, x.whole(1));
        BakeTurns y = Bakery.heated(300);
        y.addKind(210, 310, 2, 1, 1);
        y.addDough(0, 0, 3);
        y.addDough(1, 1, 2);
        y.addDough(1, 1, 4);
        y.pass(1);
        long before = Bakery.hashOf(y, 0);
        y.pass(9);
        y.clearDoughs();
        y.settle();
        y.bring(0, 3);
        Check.isTrue("changed", before != Bakery.hashOf(y, 0));
        for (int i = 3; i >= 0; i--) {
            Check.same("undo", i, y.undo());
        }
        Check.same("all as it was", before, Bakery.hashOf(y, 0));
        Bakery.doughIs("in the oven again", y, 0, 0, 0, 3, 1, 1, 0, 0, -1, 7, 0);
        Bakery.lineIs("line again", y, 1, 2);
    }

    /** A state in which every value has been something is changed in all of them by one run. */
    private static void promise26UndoBringsAllBack() {
        BakeTurns x = Bakery.heated(300);
        x.addKind(250, 301, 5, 0, 40);
        x.addKind(300, 400, 20, 0, 1);
        x.addKind(250, 340, 20, 0, 40);
        x.addDough(0, 1, 2);
        x.addDough(1, 3, 3);
        x.addDough(1, 2, 4);
        x.addDough(1, 0, 1);
        x.pass(2);
        x.stoke(1, 3);
        x.pass(3);
        Check.same("burnt", 2, x.dough(0, 9));
        Check.same("baked and scorched", 3, x.place(2, 3));
        Check.same("spoiled", 3, x.dough(2, 4));
        Check.same("waits", 5, x.dough(3, 5));
        long before = Bakery.hashOf(x, 4);
        Check.same("digest", before, x.digest());
        x.addHouse();
        Check.same("undo", 3, x.undo());
        Check.same("run", 7, Bakery.run(x, "house;kind 50 400 1 0 40;bring 1 9;dough 2 4 4;pass 100;stoke 2 9;settle;"));
        Check.isTrue("changed", before != Bakery.hashOf(x, 4));
        Check.same("undo", 3, x.undo());
        Bakery.text(x, "");
        Check.same("all as it was", before, Bakery.hashOf(x, 4));
        x.clearDoughs();
        x.addDough(0, 1, 2);
        x.addDough(0, 1, 2);
        x.undo();
        x.undo();
        Check.same("undo", 1, x.undo());
        Check.same("all as it was", before, Bakery.hashOf(x, 4));
        x.pass(100);
        x.pass(100);
        x.undo();
        Check.same("undo", 1, x.undo());
        Check.same("all as it was", before, Bakery.hashOf(x, 4));
    }

    private static void promise26UndoKeepsTheText() {
        BakeTurns x = new BakeTurns();
        Bakery.text(x, "house;");
        x.runCommands();
        x.type('h');
        Check.same("undo", 0, x.undo());
        Check.same("text stays", 7, x.whole(14));
        Check.same("households", 0, x.whole(1));
        x.addHouse();
        x.clearCommands();
        x.undo();
        Check.same("text stays cleared", 0, x.whole(14));
    }

    private static void promise27Digest() {
        BakeTurns x = new BakeTurns();
        Check.same("new", Bakery.hashOf(x, 0), x.digest());
        x.addKind(200, 300, 3, 1, 9);
        Check.same("a kind", Bakery.hashOf(x, 1), x.digest());
        x.addHouse();
        x.addHouse();
        x.stoke(0, 12);
        Check.same("stoked", Bakery.hashOf(x, 4), x.digest());
        x.addDough(1, 0, 2);
        x.addDough(0, 0, 4);
        x.addDough(0, 0, 1);
        Check.same("doughs", Bakery.hashOf(x, 4), x.digest());
        x.pass(2);
        Check.same("ticks", Bakery.hashOf(x, 4), x.digest());
        Bakery.text(x, "pass 1;");
        Check.same("text", Bakery.hashOf(x, 4), x.digest());
        x.undo();
        Check.same("undone", Bakery.hashOf(x, 3), x.digest());
        Check.same("asked twice", x.digest(), x.digest());
    }
}
