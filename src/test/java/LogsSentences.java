/** "LOGS". */
final class LogsSentences {
    private LogsSentences() {
    }

    static void all() {
        Sentence.section("LOGS");
        Sentence.holds("A household can bring logs: its balance increases by them.", LogsSentences::bringingIncreasesTheBalance);
        Sentence.holds("It can stoke the oven with logs: its balance decreases by them, down to -20;",
            LogsSentences::stokingDecreasesTheBalance);
        Sentence.holds("the heat increases by 25 for each log (the oven does not count as opened by this);",
            LogsSentences::heatIncreasesBy25ForEachLog);
        Sentence.holds("they are burnt, and count as paid by this household.", LogsSentences::burntAndPaid);
        Sentence.holds("Logs that were burnt since the last settling are unsettled.", LogsSentences::unsettledSinceTheLastSettling);
        Sentence.holds("To settle means: if no use was counted since the last settling, nothing is done",
            LogsSentences::nothingIsDoneWithoutUse);
        Sentence.holds("(if there is use, all this is done also without unsettled logs).", LogsSentences::doneAlsoWithoutLogs);
        Sentence.holds("Otherwise each household owes, of the unsettled logs, unsettled * (its use) / (use of all);",
            LogsSentences::eachOwesItsShare);
        Sentence.holds("what is missing from the unsettled logs then is owed by the households with the greatest remainders, "
            + "unsettled * (its use) mod (use of all), of equal ones by the lower numbers, 1 each.",
            LogsSentences::theRestIsOwedByTheGreatestRemainders);
        Sentence.holds("The balance of each household increases by what it has paid, and decreases by what it owes (also "
            + "below -20);", LogsSentences::balancesArePaidAndOwed);
        Sentence.holds("then all uses, what was paid, and the unsettled logs are 0.", LogsSentences::thenAllIs0);
    }

    private static void bringingIncreasesTheBalance() {
        BakeTurns x = new BakeTurns();
        x.addHouse();
        x.addHouse();
        x.bring(1, 1);
        x.bring(1, 99);
        Check.same("by both", 100, x.house(1, 0));
        Check.same("not that of another", 0, x.house(0, 0));
        x.stoke(0, 16);
        x.bring(0, 6);
        Check.same("below 0", -10, x.house(0, 0));
    }

    private static void stokingDecreasesTheBalance() {
        BakeTurns x = new BakeTurns();
        x.addHouse();
        x.addHouse();
        x.bring(0, 3);
        x.stoke(0, 2);
        Check.same("3 and 2 less", 1, x.house(0, 0));
        Check.same("not that of another", 0, x.house(1, 0));
        x.stoke(0, 14);
        Check.same("on tick", -13, x.house(0, 0));
        x.pass(100);
        Check.badState("-21", x, () -> x.stoke(0, 8));
        x.stoke(0, 7);
        Check.same("down to -20", -20, x.house(0, 0));
        Check.badState("no log more", x, () -> x.stoke(0, 1));
        Check.same("the other still can", 400, x.stoke(1, 1));
    }

    private static void heatIncreasesBy25ForEachLog() {
        for (int logs = 1; logs <= 16; logs++) {
            BakeTurns x = new BakeTurns();
            x.addHouse();
            Check.same(logs + " logs", 25 * logs, x.stoke(0, logs));
            Check.same("openings", 0, x.whole(11));
            x.pass(1);
            Check.same("then it falls by 2 alone", 25 * logs - 2, x.whole(3));
            Check.same("openings", 0, x.whole(11));
        }
    }

    private static void burntAndPaid() {
        BakeTurns x = Bakery.plain();
        x.stoke(0, 3);
        x.stoke(1, 4);
        x.stoke(0, 2);
        Check.same("burnt in all", 9, x.whole(9));
        Check.same("paid", 5, x.house(0, 2));
        Check.same("paid", 4, x.house(1, 2));
        Check.same("what was brought stays", 99, x.house(0, 3));
    }

    private static void unsettledSinceTheLastSettling() {
        BakeTurns x = Bakery.heated(300);
        Check.same("before any settling", 12, x.whole(7));
        x.addDough(0, 0, 1);
        x.pass(1);
        x.settle();
        Check.same("settled", 0, x.whole(7));
        x.stoke(1, 2);
        x.stoke(0, 1);
        Check.same("since then", 3, x.whole(7));
        Check.same("in all", 15, x.whole(9));
    }

    private static void nothingIsDoneWithoutUse() {
        BakeTurns x = Bakery.plain();
        x.stoke(0, 5);
        x.stoke(1, 2);
        x.pass(3);
        Check.same("none is settled", 0, x.settle());
        Bakery.houseIs("as it was", x, 0, 94, 0, 5);
        Bakery.houseIs("as it was", x, 1, 97, 0, 2);
        Check.same("unsettled", 7, x.whole(7));
        BakeTurns y = Bakery.heated(300);
        y.addDough(0, 0, 1);
        y.pass(3);
        Check.same("with use", 12, y.settle());
        y.stoke(1, 3);
        Check.same("no use since then", 0, y.settle());
        Check.same("still paid", 3, y.house(1, 2));
        Check.same("still unsettled", 3, y.whole(7));
        Check.same("without households", 0, new BakeTurns().settle());
    }

    private static void doneAlsoWithoutLogs() {
        BakeTurns x = Bakery.heated(300);
        x.addDough(0, 0, 1);
        x.pass(1);
        x.settle();
        x.pass(1);
        Check.same("use without logs", 1, x.whole(8));
        Check.same("none is settled", 0, x.settle());
        Check.same("the use is 0", 0, x.whole(8));
        Check.same("the use of the household too", 0, x.house(0, 1));
        x.addDough(1, 0, 1);
        x.pass(1);
        x.stoke(1, 2);
        Check.same("so it weighs no more", 1, x.house(0, 1));
        Check.same("2 logs by uses 1 and 1", 1, x.owes(1));
    }

    /** Households of which each has used as much as it has loaves here; one more has stoked so many logs since settling. */
    private static BakeTurns used(int logs, int... loaves) {
        BakeTurns x = new BakeTurns();
        x.addKind(50, 400, 1, 0, 40);
        for (int h = 0; h <= loaves.length; h++) {
            x.addHouse();
        }
        x.stoke(loaves.length, 8);
        x.addDough(loaves.length, 0, 1);
        x.pass(1);
        x.settle();
        for (int h = 0; h < loaves.length; h++) {
            if (loaves[h] > 0) {
                x.addDough(h, 0, loaves[h]);
                x.pass(1);
            }
        }
        if (logs > 0) {
            x.stoke(loaves.length, logs);
        }
        return x;
    }

    private static void owed(String what, BakeTurns x, int... due) {
        for (int h = 0; h < due.length; h++) {
            Check.same(what + ": owes(" + h + ")", due[h], x.owes(h));
        }
    }

    private static void eachOwesItsShare() {
        owed("6 of 1, 2, 3", used(6, 1, 2, 3), 1, 2, 3, 0);
        owed("none, though all used it", used(0, 1, 2, 3), 0, 0, 0, 0);
        owed("8 of 4, 0, 4", used(8, 4, 0, 4), 4, 0, 4, 0);
        owed("5 of 3", used(5, 0, 3), 0, 5, 0);
        owed("1 of 1", used(1, 1), 1, 0);
        shareOfMoreThanFitsInAnInt();
    }

    /** Twelve loaves that are never baked, in 100 runs of 700 ticks and 56 logs. */
    private static void shareOfMoreThanFitsInAnInt() {
        BakeTurns x = Bakery.with(400, new int[] {350, 365, 20, 0, 40}, new int[] {350, 375, 20, 0, 40},
            new int[] {350, 400, 20, 0, 40});
        x.addDough(0, 0, 4);
        x.addDough(1, 1, 4);
        x.addDough(1, 2, 4);
        x.pass(100);
        x.pass(41);
        Check.same("all in the oven", 0, x.whole(6));
        Check.same("heat", 100, x.whole(3));
        Bakery.text(x, "stoke 0 8;pass 100;".repeat(7));
        for (int i = 0; i < 100; i++) {
            x.bring(0, 56);
            x.runCommands();
        }
        long logs = 16 + 56 * 100;
        long first = 4 * 70141;
        long second = 4 * 70140 + 4 * 70139;
        Check.same("unsettled", logs, x.whole(7));
        Check.same("use", first, x.house(0, 1));
        Check.same("use", second, x.house(1, 1));
        Check.isTrue("no int holds the product", logs * second > Integer.MAX_VALUE);
        long share = logs * first / (first + second);
        long moreIfGreater = logs * first % (first + second) > logs * second % (first + second) ? 1 : 0;
        Check.same("first", share + moreIfGreater, x.owes(0));
        Check.same("second", logs - share - moreIfGreater, x.owes(1));
        Check.same("settled", logs, x.settle());
        Check.same("balance", 83 + logs - share - moreIfGreater, x.house(0, 0));
    }

    private static void theRestIsOwedByTheGreatestRemainders() {
        // 2 rest 2, 3 rest 3, 2 rest 2 of 7
        owed("8 of 2, 3, 2", used(8, 2, 3, 2), 2, 4, 2, 0);
        // 2 rest 4, 3 rest 6, 2 rest 4 of 7
        owed("9 of 2, 3, 2", used(9, 2, 3, 2), 3, 4, 2, 0);
        // 1 rest 1, 0 rest 0, 1 rest 1, 1 rest 1 of 3
        owed("4 of 1, 0, 1, 1", used(4, 1, 0, 1, 1), 2, 0, 1, 1, 0);
        owed("5 of 1, 0, 1, 1", used(5, 1, 0, 1, 1), 2, 0, 2, 1, 0);
        // 0 rest 1, 0 rest 4 of 5
        owed("1 of 1, 4", used(1, 1, 4), 0, 1, 0);
        // 0 rest 3, 0 rest 3, 0 rest 1 of 7
        owed("1 of 3, 3, 1", used(1, 3, 3, 1), 1, 0, 0, 0);
        owed("2 of 3, 3, 1", used(2, 3, 3, 1), 1, 1, 0, 0);
        // 1 rest 2, 1 rest 2, 0 rest 3 of 7
        owed("3 of 3, 3, 1", used(3, 3, 3, 1), 1, 1, 1, 0);
        owed("1 of seven alike", used(1, 1, 1, 1, 1, 1, 1, 1), 1, 0, 0, 0, 0, 0, 0, 0);
        owed("6 of seven alike", used(6, 1, 1, 1, 1, 1, 1, 1), 1, 1, 1, 1, 1, 1, 0, 0);
    }

    private static void balancesArePaidAndOwed() {
        BakeTurns x = used(9, 2, 3, 2);
        int[] before = {x.house(0, 0), x.house(1, 0), x.house(2, 0), x.house(3, 0)};
        Check.same("settled", 9, x.settle());
        int[] due = {-3, -4, -2, 9};
        for (int h = 0; h < 4; h++) {
            Check.same("balance of " + h, before[h] + due[h], x.house(h, 0));
        }
        BakeTurns y = Bakery.with(0, new int[] {50, 400, 20, 0, 40});
        y.addHouse();
        y.stoke(1, 16);
        y.addDough(2, 0, 4);
        y.pass(100);
        y.stoke(1, 4);
        y.stoke(2, 1);
        y.settle();
        Check.same("below -20: it has paid 1 and owes 21", -21, y.house(2, 0));
        Check.same("it has paid 20 and owes none", 99, y.house(1, 0));
        Check.same("neither", 99, y.house(0, 0));
        BakeTurns z = Bakery.with(0, new int[] {50, 400, 20, 0, 40});
        for (int i = 0; i < 9; i++) {
            z.bring(0, 99);
        }
        z.bring(0, 9);
        z.stoke(0, 16);
        z.bring(0, 16);
        z.addDough(1, 0, 1);
        z.pass(1);
        z.settle();
        Check.same("above 999 by what it has paid", 1015, z.house(0, 0));
    }

    private static void thenAllIs0() {
        BakeTurns x = used(8, 2, 3, 2);
        x.stoke(0, 1);
        x.settle();
        for (int h = 0; h < 4; h++) {
            Check.same("use of " + h, 0, x.house(h, 1));
            Check.same("paid by " + h, 0, x.house(h, 2));
            Check.same("owed by " + h, 0, x.owes(h));
        }
        Check.same("use of all", 0, x.whole(8));
        Check.same("unsettled", 0, x.whole(7));
        Check.same("burnt in all", 8 + 8 + 1, x.whole(9));
    }
}
