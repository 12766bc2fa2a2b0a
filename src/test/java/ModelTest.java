import java.util.Random;

/** Random runs of 512 calls on the class and on the model, which must answer alike, exceptions too. */
public final class ModelTest {
    private static final int RUNS = 1500;
    private static final int CALLS = 512;
    private static final String[] WORDS = {"kind", "house", "dough", "bring", "stoke", "pass", "swap", "settle"};
    private static final int[] NUMBERS = {5, 0, 3, 2, 2, 1, 2, 0};

    private final Random random;
    private final BakeTurns real = new BakeTurns();
    private final Model model = new Model();
    private final StringBuilder told = new StringBuilder();
    /** How far this run leans to hot ovens, to long passes and to wrong arguments. */
    private final int wild;
    private final int longest;

    private ModelTest(long seed) {
        random = new Random(seed);
        wild = 3 + random.nextInt(40);
        longest = random.nextInt(3) == 0 ? 100 : 1 + random.nextInt(8);
    }

    private interface Call {
        long answer();
    }

    private static String answerOf(Call call) {
        try {
            return Long.toString(call.answer());
        } catch (RuntimeException e) {
            return e.getClass().getName();
        }
    }

    public static void main(String[] args) {
        for (int seed = 0; seed < RUNS; seed++) {
            String wrong = new ModelTest(seed).run();
            Check.isTrue("seed " + seed + ": " + wrong, wrong == null);
        }
        Check.end();
    }

    private String run() {
        for (int i = 0; i < CALLS; i++) {
            String wrong = step(i);
            if (wrong != null) {
                return wrong + "\n  after" + told;
            }
        }
        return null;
    }

    private String step(int i) {
        int op = i < 12 ? random.nextInt(3) : random.nextInt(30);
        String wrong = compare(op);
        if (wrong == null && random.nextInt(4) == 0) {
            wrong = same("digest()", real::digest, model::digest);
        }
        return wrong;
    }

    private String same(String name, Call mine, Call due) {
        String want = answerOf(due);
        String got = answerOf(mine);
        if (want.equals(got)) {
            if (!name.equals("digest()")) {
                told.append(' ').append(name);
            }
            return null;
        }
        return name + " answered " + got + ", the model " + want;
    }

    private int up(int from, int to) {
        int pick = random.nextInt(wild);
        if (pick == 0) {
            return from - 1;
        }
        if (pick == 1) {
            return to + 1;
        }
        if (pick == 2) {
            return random.nextInt(4) == 0 ? random.nextInt() : random.nextBoolean() ? from : to;
        }
        return from + random.nextInt(Math.max(to - from + 1, 1));
    }

    private int house() {
        return up(0, Math.max(model.w.houses.size() - 1, 0));
    }

    private int kind() {
        return up(0, Math.max(model.w.kinds.size() - 1, 0));
    }

    private int dough() {
        return up(0, Math.max(model.w.doughs.size() - 1, 0));
    }

    private String compare(int op) {
        switch (op) {
            case 0: {
                int least = up(50, random.nextBoolean() ? 350 : 200);
                int greatest = up(least, random.nextBoolean() ? 400 : Math.min(least + 60, 400));
                int bake = up(1, random.nextBoolean() ? 20 : 4);
                int ripen = up(0, random.nextBoolean() ? 30 : 3);
                int keep = up(1, 40);
                return same("addKind(" + least + "," + greatest + "," + bake + "," + ripen + "," + keep + ")",
                    () -> real.addKind(least, greatest, bake, ripen, keep),
                    () -> model.addKind(least, greatest, bake, ripen, keep));
            }
            case 1:
                return same("addHouse()", real::addHouse, model::addHouse);
            case 2:
            case 3:
            case 4:
            case 5: {
                int h = house();
                int k = kind();
                int loaves = up(1, 4);
                return same("addDough(" + h + "," + k + "," + loaves + ")", () -> real.addDough(h, k, loaves),
                    () -> model.addDough(h, k, loaves));
            }
            case 6:
                return same("clearDoughs()", real::clearDoughs, model::clearDoughs);
            case 7: {
                int a = dough();
                int b = dough();
                return same("swap(" + a + "," + b + ")", () -> real.swap(a, b), () -> model.swap(a, b));
            }
            case 8:
            case 9: {
                int h = house();
                int n = up(1, 99);
                return same("bring(" + h + "," + n + ")", () -> real.bring(h, n), () -> model.bring(h, n));
            }
            case 10:
            case 11:
            case 12:
            case 13: {
                int h = house();
                int n = up(1, random.nextBoolean() ? 16 : 5);
                return same("stoke(" + h + "," + n + ")", () -> real.stoke(h, n), () -> model.stoke(h, n));
            }
            case 14:
                return same("settle()", real::settle, model::settle);
            case 15:
            case 16:
            case 17:
            case 18: {
                int n = up(1, longest);
                return same("pass(" + n + ")", () -> real.pass(n), () -> model.pass(n));
            }
            default:
                return compareMore(op);
        }
    }

    private String compareMore(int op) {
        switch (op) {
            case 19: {
                int k = kind();
                int what = up(0, 4);
                return same("kind(" + k + "," + what + ")", () -> real.kind(k, what), () -> model.kind(k, what));
            }
            case 20: {
                int h = house();
                int what = up(0, 6);
                return same("house(" + h + "," + what + ")", () -> real.house(h, what), () -> model.house(h, what));
            }
            case 21: {
                int d = dough();
                int what = up(0, 9);
                return same("dough(" + d + "," + what + ")", () -> real.dough(d, what), () -> model.dough(d, what));
            }
            case 22: {
                int p = up(0, 11);
                int what = up(0, 3);
                return same("place(" + p + "," + what + ")", () -> real.place(p, what), () -> model.place(p, what));
            }
            case 23: {
                int what = up(0, 14);
                int index = up(0, 16);
                String wrong = same("whole(" + what + ")", () -> real.whole(what), () -> model.whole(what));
                return wrong != null ? wrong : same("line(" + index + ")", () -> real.line(index), () -> model.line(index));
            }
            case 24: {
                int d = dough();
                String wrong = same("reason(" + d + ")", () -> real.reason(d), () -> model.reason(d));
                return wrong != null ? wrong : same("loadedIn(" + d + ")", () -> real.loadedIn(d), () -> model.loadedIn(d));
            }
            case 25: {
                int d = dough();
                int h = house();
                String wrong = same("neededLogs(" + d + ")", () -> real.neededLogs(d), () -> model.neededLogs(d));
                return wrong != null ? wrong : same("owes(" + h + ")", () -> real.owes(h), () -> model.owes(h));
            }
            case 26: {
                int n = up(0, 100);
                String wrong = same("heatIn(" + n + ")", () -> real.heatIn(n), () -> model.heatIn(n));
                return wrong != null ? wrong : same("spoiledIn(" + n + ")", () -> real.spoiledIn(n), () -> model.spoiledIn(n));
            }
            case 27:
                return typeText();
            case 28:
                return same("runCommands()", real::runCommands, model::runCommands);
            default:
                return random.nextInt(3) != 0 ? typeText() : same("undo()", real::undo, model::undo);
        }
    }

    private String typeText() {
        if (random.nextInt(4) != 0) {
            String wrong = same("clearCommands()", real::clearCommands, model::clearCommands);
            if (wrong != null) {
                return wrong;
            }
        }
        String text = text();
        for (int i = 0; i < text.length(); i++) {
            int value = random.nextInt(4000) == 0 ? (random.nextBoolean() ? -1 : 128) : text.charAt(i);
            String wrong = same("type(" + value + ")", () -> real.type(value), () -> model.type(value));
            if (wrong != null) {
                return wrong;
            }
        }
        return same("runCommands()", real::runCommands, model::runCommands);
    }

    /** Some commands, most of which can be carried out, in one text of two with a slip. */
    private String text() {
        StringBuilder s = new StringBuilder();
        int commands = random.nextInt(9);
        for (int i = 0; i < commands; i++) {
            int word = random.nextInt(8);
            spaces(s, 0);
            s.append(WORDS[word]);
            for (int n = 0; n < NUMBERS[word]; n++) {
                spaces(s, 1);
                s.append(digits(number(word, n)));
            }
            spaces(s, 0);
            s.append(';');
        }
        spaces(s, 0);
        if (random.nextBoolean() && s.length() > 0) {
            int at = random.nextInt(s.length());
            switch (random.nextInt(4)) {
                case 0 -> s.deleteCharAt(at);
                case 1 -> s.insert(at, slip());
                case 2 -> s.setCharAt(at, slip());
                default -> s.setLength(at);
            }
        }
        return s.toString();
    }

    private char slip() {
        return " ;0919azekps/:`{A\t\0".charAt(random.nextInt(19));
    }

    private void spaces(StringBuilder s, int least) {
        int n = least + (random.nextInt(4) == 0 ? random.nextInt(3) : 0);
        for (int i = 0; i < n; i++) {
            s.append(' ');
        }
    }

    private String digits(int number) {
        int value = Math.min(Math.max(number, 0), 999);
        return random.nextInt(5) != 0 ? Integer.toString(value) : String.format("%03d", value);
    }

    private int number(int word, int n) {
        switch (word) {
            case 0:
                return new int[] {50 + random.nextInt(150), 200 + random.nextInt(201), 1 + random.nextInt(20),
                    random.nextInt(31), 1 + random.nextInt(41)}[n];
            case 2:
                return n == 0 ? house() : n == 1 ? kind() : up(1, 4);
            case 3:
                return n == 0 ? house() : up(1, 99);
            case 4:
                return n == 0 ? house() : up(1, 16);
            case 5:
                return up(1, longest);
            default:
                return dough();
        }
    }
}
