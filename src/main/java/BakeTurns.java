/**
 * A bakehouse that households share: an oven, its hearth, doughs in a line, logs, what-if
 * questions, texts of commands and undo. The document DOC.md tells what each call promises.
 */
public final class BakeTurns {

    /** Returned where there is no such value. */
    public static final int NONE = -1;

    private static final int MOST_KINDS = 5;
    private static final int MOST_HOUSES = 8;
    private static final int MOST_DOUGHS = 16;
    private static final int MOST_LOAVES = 4;

    private static final int PLACES = 12;
    private static final int PLACES_OF_A_BAND = 4;
    private static final int HEAT_LOST_BY_BAND = 20;

    private static final int MOST_HEAT = 400;
    private static final int HEAT_OF_A_LOG = 25;
    private static final int HEAT_LOST_BY_TICK = 2;
    private static final int HEAT_LOST_BY_OPENING = 4;
    private static final int LOAVES_THAT_COST_HEAT = 2;
    private static final int TICKS_TO_BURN = 3;

    private static final int MOST_BALANCE = 999;
    private static final int LEAST_BALANCE = -20;
    private static final int MOST_BROUGHT = 99;
    private static final int MOST_STOKED = 16;

    private static final int MOST_TICKS = 100000;
    private static final int MOST_PASSED = 100;
    private static final int TICKS_LOOKED_AHEAD = 60;

    private static final int MOST_BYTES = 150;
    private static final int MOST_NUMBERS = 5;
    private static final int MOST_DIGITS = 3;
    private static final int FAULT_BASE = -10;
    private static final int UNDO_STATES = 4;

    // The states of a dough, as dough() tells them.
    private static final int WAITING = 0;
    private static final int IN_OVEN = 1;
    private static final int DONE = 2;
    private static final int SPOILED = 3;

    // The reasons why a dough is not loaded, as dough() and reason() tell them.
    private static final int LOADABLE = 0;
    private static final int BEHIND_LOADED = 1;
    private static final int UNRIPE = 2;
    private static final int NO_ROOM = 3;
    private static final int TOO_COLD = 4;
    private static final int NO_FIT = 5;

    // What a call is refused with, in the order in which the document lists it.
    private static final int FINE = 0;
    private static final int NO_SUCH = 1;
    private static final int BAD_ARGUMENT = 2;
    private static final int BAD_STATE = 3;

    // The words of commands.
    private static final int WORDS = 8;
    private static final int WORD_KIND = 0;
    private static final int WORD_HOUSE = 1;
    private static final int WORD_DOUGH = 2;
    private static final int WORD_BRING = 3;
    private static final int WORD_STOKE = 4;
    private static final int WORD_PASS = 5;
    private static final int WORD_SWAP = 6;
    private static final int WORD_SETTLE = 7;

    // How many values each of the methods of values has.
    private static final int KIND_VALUES = 5;
    private static final int HOUSE_VALUES = 7;
    private static final int DOUGH_VALUES = 10;
    private static final int PLACE_VALUES = 4;
    private static final int WHOLE_VALUES = 15;

    private static final long DIGEST_START = 43350L;
    private static final int DIGEST_HEAT_TICKS = 10;

    private final State now;
    private final State whatIf;
    private final History history;
    private final Commands commands;

    /** A cold, empty oven, without kinds, households and doughs, at tick 0. */
    public BakeTurns() {
        now = new State();
        whatIf = new State();
        history = new History();
        commands = new Commands();
    }

    // ---- kinds, households, doughs

    /** Adds a kind and returns its number. */
    public int addKind(int least, int greatest, int bake, int ripen, int keep)
            throws IllegalArgumentException, IllegalStateException {
        refuse(now.refusalOfKind(least, greatest, bake, ripen, keep));
        history.save(now);
        return now.newKind(least, greatest, bake, ripen, keep);
    }

    /** Adds a household and returns its number. */
    public int addHouse() throws IllegalStateException {
        refuse(now.refusalOfHouse());
        history.save(now);
        return now.newHouse();
    }

    /** Adds a dough at the end of the line and returns its number. */
    public int addDough(int house, int kind, int loaves)
            throws IndexOutOfBoundsException, IllegalArgumentException, IllegalStateException {
        refuse(now.refusalOfDough(house, kind, loaves));
        history.save(now);
        return now.newDough(house, kind, loaves);
    }

    /** Clears away the doughs that are done or spoiled and returns how many are left. */
    public int clearDoughs() {
        history.save(now);
        return now.clearAway();
    }

    /** Lets two doughs swap their places in the line and returns the new place of the first. */
    public int swap(int dough, int other)
            throws IndexOutOfBoundsException, IllegalArgumentException, IllegalStateException {
        refuse(now.refusalOfSwap(dough, other));
        history.save(now);
        return now.exchange(dough, other);
    }

    // ---- logs and ticks

    /** Lets a household bring logs and returns its balance then. */
    public int bring(int house, int logs)
            throws IndexOutOfBoundsException, IllegalArgumentException, IllegalStateException {
        refuse(now.refusalOfBring(house, logs));
        history.save(now);
        return now.takeLogs(house, logs);
    }

    /** Lets a household stoke the oven and returns the heat then. */
    public int stoke(int house, int logs)
            throws IndexOutOfBoundsException, IllegalArgumentException, IllegalStateException {
        refuse(now.refusalOfStoke(house, logs));
        history.save(now);
        return now.burnLogs(house, logs);
    }

    /** Settles the logs that were burnt and returns how many these were. */
    public int settle() {
        history.save(now);
        return now.settleLogs();
    }

    /** Lets ticks pass and returns how many doughs were taken out in them. */
    public int pass(int ticks) throws IllegalArgumentException, IllegalStateException {
        refuse(now.refusalOfPass(ticks));
        history.save(now);
        return now.passTicks(ticks);
    }

    // ---- values

    /** Returns a value of a kind. */
    public int kind(int kind, int what) throws IndexOutOfBoundsException, IllegalArgumentException {
        refuse(refusalOfValue(now.isKind(kind), what, KIND_VALUES));
        return now.valueOfKind(kind, what);
    }

    /** Returns a value of a household. */
    public int house(int house, int what) throws IndexOutOfBoundsException, IllegalArgumentException {
        refuse(refusalOfValue(now.isHouse(house), what, HOUSE_VALUES));
        return now.valueOfHouse(house, what);
    }

    /** Returns a value of a dough. */
    public int dough(int dough, int what) throws IndexOutOfBoundsException, IllegalArgumentException {
        refuse(refusalOfValue(now.isDough(dough), what, DOUGH_VALUES));
        return now.valueOfDough(dough, what);
    }

    /** Returns a value of a place. */
    public int place(int place, int what) throws IndexOutOfBoundsException, IllegalArgumentException {
        refuse(refusalOfValue(place >= 0 && place < PLACES, what, PLACE_VALUES));
        return now.valueOfPlace(place, what);
    }

    /** Returns a value of the whole. */
    public int whole(int what) throws IllegalArgumentException {
        refuse(refusalOfValue(true, what, WHOLE_VALUES));
        return valueOfWhole(what);
    }

    /** Returns the dough at a place in the line, NONE if there are not so many. */
    public int line(int index) throws IllegalArgumentException {
        refuse(index < 0 ? BAD_ARGUMENT : FINE);
        return now.doughInLine(index);
    }

    // ---- what if, which changes nothing

    /** Tells why a dough could not be loaded now, if it alone was looked at. */
    public int reason(int dough) throws IndexOutOfBoundsException {
        refuse(now.isDough(dough) ? FINE : NO_SUCH);
        return now.reasonNow(dough);
    }

    /** Tells after how many ticks a dough would be loaded, NONE if not in 60. */
    public int loadedIn(int dough) throws IndexOutOfBoundsException {
        refuse(now.isDough(dough) ? FINE : NO_SUCH);
        if (!now.isWaiting(dough)) {
            return NONE;
        }
        whatIf.copyFrom(now);
        for (int tick = 1; tick <= TICKS_LOOKED_AHEAD; tick++) {
            whatIf.passTicks(1);
            if (whatIf.wasLoaded(dough)) {
                return tick;
            }
        }
        return NONE;
    }

    /** Returns the fewest logs with which a dough could be loaded now. */
    public int neededLogs(int dough) throws IndexOutOfBoundsException {
        refuse(now.isDough(dough) ? FINE : NO_SUCH);
        return now.fewestLogsFor(dough);
    }

    /** Returns the heat that the oven would have after some ticks. */
    public int heatIn(int ticks) throws IllegalArgumentException {
        refuse(ticks < 0 || ticks > MOST_PASSED ? BAD_ARGUMENT : FINE);
        return heatAfter(ticks);
    }

    /** Returns the set of the doughs that wait now and would be spoiled after some ticks. */
    public int spoiledIn(int ticks) throws IllegalArgumentException {
        refuse(ticks < 0 || ticks > MOST_PASSED ? BAD_ARGUMENT : FINE);
        whatIf.copyFrom(now);
        whatIf.passTicks(ticks);
        return whatIf.setOfSpoiled() & ~now.setOfSpoiled();
    }

    /** Returns what a household would owe if the logs were settled now. */
    public int owes(int house) throws IndexOutOfBoundsException {
        refuse(now.isHouse(house) ? FINE : NO_SUCH);
        return now.owedBy(house);
    }

    // ---- command text, undo and checksum

    /** Appends a byte to the command text and returns its length. */
    public int type(int value) throws IllegalArgumentException, IllegalStateException {
        refuse(commands.refusalOfByte(value));
        return commands.append(value);
    }

    /** Empties the command text and returns the length that it had. */
    public int clearCommands() {
        return commands.empty();
    }

    /** Runs the command text: the number of commands carried out, or -10 minus its fault. */
    public int runCommands() {
        int fault = commands.findFault();
        if (fault != NONE) {
            return FAULT_BASE - fault;
        }
        history.save(now);
        commands.rewind();
        int carriedOut = 0;
        while (carriedOut < MOST_BYTES && commands.readNext() && carryOut()) {
            carriedOut++;
        }
        return carriedOut;
    }

    /** Restores the latest saved state and returns how many are left. */
    public int undo() throws IllegalStateException {
        refuse(history.size() == 0 ? BAD_STATE : FINE);
        history.restoreTo(now);
        return history.size();
    }

    /** Returns a hash of the state. */
    public long digest() {
        long hash = mixed(DIGEST_START, history.size());
        for (int what = 0; what < WHOLE_VALUES; what++) {
            hash = mixed(hash, valueOfWhole(what));
        }
        hash = mixedKinds(hash);
        hash = mixedHouses(hash);
        hash = mixedDoughs(hash);
        hash = mixedPlaces(hash);
        return mixed(hash, heatAfter(DIGEST_HEAT_TICKS));
    }

    // ---- what the face is made of

    private static void refuse(int refusal) {
        switch (refusal) {
            case NO_SUCH:
                throw new IndexOutOfBoundsException("there is no such number");
            case BAD_ARGUMENT:
                throw new IllegalArgumentException("an argument is out of range");
            case BAD_STATE:
                throw new IllegalStateException("this cannot be done now");
            default:
                return;
        }
    }

    private static int refusalOfValue(boolean exists, int what, int values) {
        if (!exists) {
            return NO_SUCH;
        }
        return what < 0 || what >= values ? BAD_ARGUMENT : FINE;
    }

    private int valueOfWhole(int what) {
        return what == WHOLE_VALUES - 1 ? commands.length() : now.valueOfWholeHouse(what);
    }

    private int heatAfter(int ticks) {
        whatIf.copyFrom(now);
        whatIf.passTicks(ticks);
        return whatIf.heat;
    }

    private static long mixed(long hash, int value) {
        return 31L * hash + value;
    }

    private long mixedKinds(long start) {
        long hash = start;
        for (int kind = 0; kind < now.kinds.count; kind++) {
            for (int what = 0; what < KIND_VALUES; what++) {
                hash = mixed(hash, now.valueOfKind(kind, what));
            }
        }
        return hash;
    }

    private long mixedHouses(long start) {
        long hash = start;
        for (int house = 0; house < now.houses.count; house++) {
            for (int what = 0; what < HOUSE_VALUES; what++) {
                hash = mixed(hash, now.valueOfHouse(house, what));
            }
            hash = mixed(hash, now.owedBy(house));
        }
        return hash;
    }

    private long mixedDoughs(long start) {
        long hash = start;
        for (int dough = 0; dough < now.doughs.count; dough++) {
            for (int what = 0; what < DOUGH_VALUES; what++) {
                hash = mixed(hash, now.valueOfDough(dough, what));
            }
            hash = mixed(hash, now.reasonNow(dough));
        }
        return hash;
    }

    private long mixedPlaces(long start) {
        long hash = start;
        for (int place = 0; place < PLACES; place++) {
            for (int what = 0; what < PLACE_VALUES; what++) {
                hash = mixed(hash, now.valueOfPlace(place, what));
            }
        }
        for (int index = 0; index < now.waiting; index++) {
            hash = mixed(hash, now.doughInLine(index));
        }
        return hash;
    }

    /** Carries out the command that was read last; false if it would throw. */
    private boolean carryOut() {
        if (refusalOfCommand() != FINE) {
            return false;
        }
        int a = commands.number(0);
        int b = commands.number(1);
        int c = commands.number(2);
        switch (commands.word()) {
            case WORD_KIND:
                now.newKind(a, b, c, commands.number(3), commands.number(4));
                break;
            case WORD_HOUSE:
                now.newHouse();
                break;
            case WORD_DOUGH:
                now.newDough(a, b, c);
                break;
            case WORD_BRING:
                now.takeLogs(a, b);
                break;
            case WORD_STOKE:
                now.burnLogs(a, b);
                break;
            case WORD_PASS:
                now.passTicks(a);
                break;
            case WORD_SWAP:
                now.exchange(a, b);
                break;
            case WORD_SETTLE:
                now.settleLogs();
                break;
            default:
                return false;
        }
        return true;
    }

    private int refusalOfCommand() {
        int a = commands.number(0);
        int b = commands.number(1);
        int c = commands.number(2);
        switch (commands.word()) {
            case WORD_KIND:
                return now.refusalOfKind(a, b, c, commands.number(3), commands.number(4));
            case WORD_HOUSE:
                return now.refusalOfHouse();
            case WORD_DOUGH:
                return now.refusalOfDough(a, b, c);
            case WORD_BRING:
                return now.refusalOfBring(a, b);
            case WORD_STOKE:
                return now.refusalOfStoke(a, b);
            case WORD_PASS:
                return now.refusalOfPass(a);
            case WORD_SWAP:
                return now.refusalOfSwap(a, b);
            default:
                return FINE;
        }
    }

    /** A row of numbers of a fixed length; outside of it there are zeros that nothing changes. */
    private static final class Row {
        private final int[] cells;

        Row(int length) {
            cells = new int[length > 0 ? length : 0];
        }

        int at(int index) {
            return index >= 0 && index < cells.length ? cells[index] : 0;
        }

        void put(int index, int value) {
            if (index >= 0 && index < cells.length) {
                cells[index] = value;
            }
        }

        void increase(int index, int by) {
            put(index, at(index) + by);
        }

        void fill(int value) {
            for (int i = 0; i < cells.length; i++) {
                cells[i] = value;
            }
        }

        void copyFrom(Row other) {
            if (other != null) {
                System.arraycopy(other.cells, 0, cells, 0, Math.min(other.cells.length, cells.length));
            }
        }
    }

    /** The kinds of dough. */
    private static final class Kinds {
        int count;
        final Row least = new Row(MOST_KINDS);
        final Row greatest = new Row(MOST_KINDS);
        final Row bake = new Row(MOST_KINDS);
        final Row ripen = new Row(MOST_KINDS);
        final Row keep = new Row(MOST_KINDS);

        void copyFrom(Kinds other) {
            if (other != null) {
                count = other.count;
                least.copyFrom(other.least);
                greatest.copyFrom(other.greatest);
                bake.copyFrom(other.bake);
                ripen.copyFrom(other.ripen);
                keep.copyFrom(other.keep);
            }
        }
    }

    /** The households. */
    private static final class Houses {
        int count;
        final Row balance = new Row(MOST_HOUSES);
        final Row use = new Row(MOST_HOUSES);
        final Row paid = new Row(MOST_HOUSES);
        final Row brought = new Row(MOST_HOUSES);
        final Row loavesDone = new Row(MOST_HOUSES);
        final Row loavesBurnt = new Row(MOST_HOUSES);

        void copyFrom(Houses other) {
            if (other != null) {
                count = other.count;
                balance.copyFrom(other.balance);
                use.copyFrom(other.use);
                paid.copyFrom(other.paid);
                brought.copyFrom(other.brought);
                loavesDone.copyFrom(other.loavesDone);
                loavesBurnt.copyFrom(other.loavesBurnt);
            }
        }
    }

    /** The doughs, also those that are done or spoiled. */
    private static final class Doughs {
        int count;
        final Row houseOf = new Row(MOST_DOUGHS);
        final Row kindOf = new Row(MOST_DOUGHS);
        final Row loaves = new Row(MOST_DOUGHS);
        final Row age = new Row(MOST_DOUGHS);
        final Row phase = new Row(MOST_DOUGHS);
        final Row lastReason = new Row(MOST_DOUGHS);
        final Row loadedAt = new Row(MOST_DOUGHS);
        final Row burnt = new Row(MOST_DOUGHS);

        void copyFrom(Doughs other) {
            if (other != null) {
                count = other.count;
                houseOf.copyFrom(other.houseOf);
                kindOf.copyFrom(other.kindOf);
                loaves.copyFrom(other.loaves);
                age.copyFrom(other.age);
                phase.copyFrom(other.phase);
                lastReason.copyFrom(other.lastReason);
                loadedAt.copyFrom(other.loadedAt);
                burnt.copyFrom(other.burnt);
            }
        }

        void move(int from, int to) {
            houseOf.put(to, houseOf.at(from));
            kindOf.put(to, kindOf.at(from));
            loaves.put(to, loaves.at(from));
            age.put(to, age.at(from));
            phase.put(to, phase.at(from));
            lastReason.put(to, lastReason.at(from));
            loadedAt.put(to, loadedAt.at(from));
            burnt.put(to, burnt.at(from));
        }
    }

    /** The places of the hearth: the dough of the loaf on each, and what that loaf went through. */
    private static final class Places {
        final Row doughOn = new Row(PLACES);
        final Row baked = new Row(PLACES);
        final Row scorched = new Row(PLACES);

        Places() {
            doughOn.fill(NONE);
        }

        void copyFrom(Places other) {
            if (other != null) {
                doughOn.copyFrom(other.doughOn);
                baked.copyFrom(other.baked);
                scorched.copyFrom(other.scorched);
            }
        }

        boolean isFree(int place) {
            return doughOn.at(place) == NONE;
        }

        int countFree() {
            int free = 0;
            for (int place = 0; place < PLACES; place++) {
                if (isFree(place)) {
                    free++;
                }
            }
            return free;
        }

        void putLoaf(int place, int dough) {
            doughOn.put(place, dough);
            baked.put(place, 0);
            scorched.put(place, 0);
        }
    }

    /** The whole state but the command text: what an undo brings back. */
    private static final class State {
        final Kinds kinds = new Kinds();
        final Houses houses = new Houses();
        final Doughs doughs = new Doughs();
        final Places places = new Places();
        final Row inLine = new Row(MOST_DOUGHS);
        int waiting;
        int heat;
        int ticks;
        int unsettled;
        int logsBurnt;
        int logsBrought;
        int openings;
        int loavesDone;
        int spoiledEver;

        void copyFrom(State other) {
            if (other != null) {
                kinds.copyFrom(other.kinds);
                houses.copyFrom(other.houses);
                doughs.copyFrom(other.doughs);
                places.copyFrom(other.places);
                inLine.copyFrom(other.inLine);
                waiting = other.waiting;
                heat = other.heat;
                ticks = other.ticks;
                unsettled = other.unsettled;
                logsBurnt = other.logsBurnt;
                logsBrought = other.logsBrought;
                openings = other.openings;
                loavesDone = other.loavesDone;
                spoiledEver = other.spoiledEver;
            }
        }

        // -- what there is

        boolean isKind(int kind) {
            return kind >= 0 && kind < kinds.count;
        }

        boolean isHouse(int house) {
            return house >= 0 && house < houses.count;
        }

        boolean isDough(int dough) {
            return dough >= 0 && dough < doughs.count;
        }

        boolean isWaiting(int dough) {
            return isDough(dough) && doughs.phase.at(dough) == WAITING;
        }

        boolean wasLoaded(int dough) {
            return isDough(dough) && doughs.loadedAt.at(dough) != NONE;
        }

        // -- what is refused

        int refusalOfKind(int least, int greatest, int bake, int ripen, int keep) {
            if (least < 50 || least > 350 || greatest < least || greatest > MOST_HEAT
                    || bake < 1 || bake > 20 || ripen < 0 || ripen > 30 || keep < 1 || keep > 40) {
                return BAD_ARGUMENT;
            }
            return kinds.count >= MOST_KINDS ? BAD_STATE : FINE;
        }

        int refusalOfHouse() {
            return houses.count >= MOST_HOUSES ? BAD_STATE : FINE;
        }

        int refusalOfDough(int house, int kind, int loaves) {
            if (!isHouse(house) || !isKind(kind)) {
                return NO_SUCH;
            }
            if (loaves < 1 || loaves > MOST_LOAVES) {
                return BAD_ARGUMENT;
            }
            return doughs.count >= MOST_DOUGHS ? BAD_STATE : FINE;
        }

        int refusalOfSwap(int dough, int other) {
            if (!isDough(dough) || !isDough(other)) {
                return NO_SUCH;
            }
            if (dough == other) {
                return BAD_ARGUMENT;
            }
            return isWaiting(dough) && isWaiting(other) ? FINE : BAD_STATE;
        }

        int refusalOfBring(int house, int logs) {
            if (!isHouse(house)) {
                return NO_SUCH;
            }
            if (logs < 1 || logs > MOST_BROUGHT) {
                return BAD_ARGUMENT;
            }
            return houses.balance.at(house) + logs > MOST_BALANCE ? BAD_STATE : FINE;
        }

        int refusalOfStoke(int house, int logs) {
            if (!isHouse(house)) {
                return NO_SUCH;
            }
            if (logs < 1 || logs > MOST_STOKED) {
                return BAD_ARGUMENT;
            }
            boolean tooPoor = houses.balance.at(house) - logs < LEAST_BALANCE;
            return tooPoor || heat + HEAT_OF_A_LOG * logs > MOST_HEAT ? BAD_STATE : FINE;
        }

        int refusalOfPass(int number) {
            if (number < 1 || number > MOST_PASSED) {
                return BAD_ARGUMENT;
            }
            return ticks + number > MOST_TICKS ? BAD_STATE : FINE;
        }

        // -- kinds, households, doughs

        int newKind(int least, int greatest, int bake, int ripen, int keep) {
            int kind = kinds.count;
            kinds.least.put(kind, least);
            kinds.greatest.put(kind, greatest);
            kinds.bake.put(kind, bake);
            kinds.ripen.put(kind, ripen);
            kinds.keep.put(kind, keep);
            kinds.count = kind + 1;
            return kind;
        }

        int newHouse() {
            int house = houses.count;
            houses.count = house + 1;
            return house;
        }

        int newDough(int house, int kind, int loaves) {
            int dough = doughs.count;
            doughs.houseOf.put(dough, house);
            doughs.kindOf.put(dough, kind);
            doughs.loaves.put(dough, loaves);
            doughs.age.put(dough, 0);
            doughs.phase.put(dough, WAITING);
            doughs.lastReason.put(dough, LOADABLE);
            doughs.loadedAt.put(dough, NONE);
            doughs.burnt.put(dough, 0);
            doughs.count = dough + 1;
            inLine.put(waiting, dough);
            waiting++;
            return dough;
        }

        int clearAway() {
            int all = doughs.count;
            int kept = 0;
            for (int dough = 0; dough < all; dough++) {
                int phase = doughs.phase.at(dough);
                if (phase == WAITING || phase == IN_OVEN) {
                    doughs.move(dough, kept);
                    renumber(dough, kept);
                    kept++;
                }
            }
            doughs.count = kept;
            return kept;
        }

        // Safe dough by dough in ascending order: each new number is at most the old one, so it is
        // either the dough's own or one that nothing in the line or the oven bears any more.
        private void renumber(int from, int to) {
            for (int i = 0; i < waiting; i++) {
                if (inLine.at(i) == from) {
                    inLine.put(i, to);
                }
            }
            for (int place = 0; place < PLACES; place++) {
                if (places.doughOn.at(place) == from) {
                    places.doughOn.put(place, to);
                }
            }
        }

        int exchange(int dough, int other) {
            int from = placeInLine(dough);
            int to = placeInLine(other);
            inLine.put(from, other);
            inLine.put(to, dough);
            return to;
        }

        // -- logs

        int takeLogs(int house, int logs) {
            houses.balance.increase(house, logs);
            houses.brought.increase(house, logs);
            logsBrought += logs;
            return houses.balance.at(house);
        }

        int burnLogs(int house, int logs) {
            houses.balance.increase(house, -logs);
            houses.paid.increase(house, logs);
            unsettled += logs;
            logsBurnt += logs;
            heat += HEAT_OF_A_LOG * logs;
            return heat;
        }

        int settleLogs() {
            if (useOfAll() == 0) {
                return 0;
            }
            int settled = unsettled;
            // What is owed depends on the uses and the unsettled logs, so these are cleared last.
            for (int house = 0; house < houses.count; house++) {
                houses.balance.increase(house, houses.paid.at(house) - owedBy(house));
            }
            houses.use.fill(0);
            houses.paid.fill(0);
            unsettled = 0;
            return settled;
        }

        int useOfAll() {
            int use = 0;
            for (int house = 0; house < houses.count; house++) {
                use += houses.use.at(house);
            }
            return use;
        }

        int owedBy(int house) {
            long all = useOfAll();
            if (all <= 0) {
                return 0;
            }
            long share = (long) unsettled * houses.use.at(house);
            long rest = share % all;
            long missing = unsettled;
            int ahead = 0;
            for (int other = 0; other < houses.count; other++) {
                long otherShare = (long) unsettled * houses.use.at(other);
                long otherRest = otherShare % all;
                missing -= otherShare / all;
                if (otherRest > rest || otherRest == rest && other < house) {
                    ahead++;
                }
            }
            return (int) (share / all) + (ahead < missing ? 1 : 0);
        }

        // -- ticks

        /** Lets ticks pass and returns how many doughs were taken out in them. */
        int passTicks(int number) {
            int takenOutInAll = 0;
            for (int i = 0; i < number; i++) {
                growOlder();
                int loaded = loadFirst();
                heatLoaves();
                int takenOut = takeOutDone();
                coolDown(loaded, takenOut);
                ticks++;
                takenOutInAll += takenOut;
            }
            return takenOutInAll;
        }

        private void growOlder() {
            int all = waiting;
            int kept = 0;
            for (int i = 0; i < all; i++) {
                int dough = inLine.at(i);
                int kind = doughs.kindOf.at(dough);
                doughs.age.increase(dough, 1);
                if (doughs.age.at(dough) > kinds.ripen.at(kind) + kinds.keep.at(kind)) {
                    doughs.phase.put(dough, SPOILED);
                    spoiledEver++;
                } else {
                    inLine.put(kept, dough);
                    kept++;
                }
            }
            waiting = kept;
        }

        /** Loads the first dough that can be loaded; returns its loaves, 0 if there is none. */
        private int loadFirst() {
            int all = waiting;
            int kept = 0;
            int loaded = 0;
            for (int i = 0; i < all; i++) {
                int dough = inLine.at(i);
                int why = loaded > 0 ? BEHIND_LOADED : reasonAt(dough, heat);
                if (why == LOADABLE) {
                    load(dough);
                    loaded = doughs.loaves.at(dough);
                } else {
                    doughs.lastReason.put(dough, why);
                    inLine.put(kept, dough);
                    kept++;
                }
            }
            waiting = kept;
            return loaded;
        }

        private void load(int dough) {
            int kind = doughs.kindOf.at(dough);
            int left = doughs.loaves.at(dough);
            for (int place = 0; place < PLACES && left > 0; place++) {
                int warmth = warmthOf(place, heat);
                if (places.isFree(place) && warmth >= kinds.least.at(kind) && warmth <= kinds.greatest.at(kind)) {
                    places.putLoaf(place, dough);
                    left--;
                }
            }
            doughs.phase.put(dough, IN_OVEN);
            doughs.loadedAt.put(dough, ticks);
        }

        private void heatLoaves() {
            for (int place = 0; place < PLACES; place++) {
                if (!places.isFree(place)) {
                    int dough = places.doughOn.at(place);
                    int kind = doughs.kindOf.at(dough);
                    int warmth = warmthOf(place, heat);
                    if (warmth >= kinds.least.at(kind)) {
                        places.baked.increase(place, 1);
                    }
                    if (warmth > kinds.greatest.at(kind)) {
                        places.scorched.increase(place, 1);
                    }
                    houses.use.increase(doughs.houseOf.at(dough), 1);
                }
            }
        }

        private int takeOutDone() {
            int takenOut = 0;
            for (int dough = 0; dough < doughs.count; dough++) {
                if (doughs.phase.at(dough) == IN_OVEN && isBaked(dough)) {
                    takeOut(dough);
                    takenOut++;
                }
            }
            return takenOut;
        }

        private boolean isBaked(int dough) {
            int needed = kinds.bake.at(doughs.kindOf.at(dough));
            for (int place = 0; place < PLACES; place++) {
                if (places.doughOn.at(place) == dough && places.baked.at(place) < needed) {
                    return false;
                }
            }
            return true;
        }

        private void takeOut(int dough) {
            int burnt = 0;
            for (int place = 0; place < PLACES; place++) {
                if (places.doughOn.at(place) == dough) {
                    if (places.scorched.at(place) >= TICKS_TO_BURN) {
                        burnt++;
                    }
                    places.doughOn.put(place, NONE);
                }
            }
            int house = doughs.houseOf.at(dough);
            int loaves = doughs.loaves.at(dough);
            doughs.phase.put(dough, DONE);
            doughs.burnt.put(dough, burnt);
            houses.loavesDone.increase(house, loaves);
            houses.loavesBurnt.increase(house, burnt);
            loavesDone += loaves;
        }

        private void coolDown(int loaded, int takenOut) {
            int opened = takenOut + (loaded > 0 ? 1 : 0);
            int lost = HEAT_LOST_BY_TICK + HEAT_LOST_BY_OPENING * opened + loaded / LOAVES_THAT_COST_HEAT;
            openings += opened;
            heat = Math.max(heat - lost, 0);
        }

        private static int warmthOf(int place, int ovenHeat) {
            return Math.max(ovenHeat - HEAT_LOST_BY_BAND * (place / PLACES_OF_A_BAND), 0);
        }

        // -- what if

        /** Tells why a dough could not be loaded at a heat of the oven, LOADABLE if it could. */
        private int reasonAt(int dough, int ovenHeat) {
            int kind = doughs.kindOf.at(dough);
            int free = 0;
            int warm = 0;
            int fit = 0;
            for (int place = 0; place < PLACES; place++) {
                if (places.isFree(place)) {
                    int warmth = warmthOf(place, ovenHeat);
                    boolean isWarm = warmth >= kinds.least.at(kind);
                    free++;
                    warm += isWarm ? 1 : 0;
                    fit += isWarm && warmth <= kinds.greatest.at(kind) ? 1 : 0;
                }
            }
            int loaves = doughs.loaves.at(dough);
            if (doughs.age.at(dough) < kinds.ripen.at(kind)) {
                return UNRIPE;
            }
            if (free < loaves) {
                return NO_ROOM;
            }
            if (warm < loaves) {
                return TOO_COLD;
            }
            return fit < loaves ? NO_FIT : LOADABLE;
        }

        int reasonNow(int dough) {
            return isWaiting(dough) ? reasonAt(dough, heat) : NONE;
        }

        int fewestLogsFor(int dough) {
            if (!isWaiting(dough)) {
                return NONE;
            }
            for (int logs = 0; logs <= MOST_STOKED && heat + HEAT_OF_A_LOG * logs <= MOST_HEAT; logs++) {
                if (reasonAt(dough, heat + HEAT_OF_A_LOG * logs) == LOADABLE) {
                    return logs;
                }
            }
            return NONE;
        }

        int setOfSpoiled() {
            int set = 0;
            for (int dough = 0; dough < doughs.count; dough++) {
                if (doughs.phase.at(dough) == SPOILED) {
                    set |= 1 << dough;
                }
            }
            return set;
        }

        // -- values

        int valueOfKind(int kind, int what) {
            switch (what) {
                case 0:
                    return kinds.least.at(kind);
                case 1:
                    return kinds.greatest.at(kind);
                case 2:
                    return kinds.bake.at(kind);
                case 3:
                    return kinds.ripen.at(kind);
                default:
                    return kinds.keep.at(kind);
            }
        }

        int valueOfHouse(int house, int what) {
            switch (what) {
                case 0:
                    return houses.balance.at(house);
                case 1:
                    return houses.use.at(house);
                case 2:
                    return houses.paid.at(house);
                case 3:
                    return houses.brought.at(house);
                case 4:
                    return countDoughsOf(house);
                case 5:
                    return houses.loavesDone.at(house);
                default:
                    return houses.loavesBurnt.at(house);
            }
        }

        private int countDoughsOf(int house) {
            int number = 0;
            for (int dough = 0; dough < doughs.count; dough++) {
                if (doughs.houseOf.at(dough) == house) {
                    number++;
                }
            }
            return number;
        }

        int valueOfDough(int dough, int what) {
            switch (what) {
                case 0:
                    return doughs.houseOf.at(dough);
                case 1:
                    return doughs.kindOf.at(dough);
                case 2:
                    return doughs.loaves.at(dough);
                case 3:
                    return doughs.age.at(dough);
                case 4:
                    return doughs.phase.at(dough);
                case 5:
                    return doughs.lastReason.at(dough);
                case 6:
                    return doughs.loadedAt.at(dough);
                case 7:
                    return placeInLine(dough);
                case 8:
                    return setOfPlaces(dough);
                default:
                    return doughs.burnt.at(dough);
            }
        }

        private int placeInLine(int dough) {
            for (int i = 0; i < waiting; i++) {
                if (inLine.at(i) == dough) {
                    return i;
                }
            }
            return NONE;
        }

        private int setOfPlaces(int dough) {
            int set = 0;
            for (int place = 0; place < PLACES; place++) {
                if (places.doughOn.at(place) == dough) {
                    set |= 1 << place;
                }
            }
            return set;
        }

        int valueOfPlace(int place, int what) {
            if (what == 0) {
                return warmthOf(place, heat);
            }
            if (places.isFree(place)) {
                return NONE;
            }
            switch (what) {
                case 1:
                    return places.doughOn.at(place);
                case 2:
                    return places.baked.at(place);
                default:
                    return places.scorched.at(place);
            }
        }

        int valueOfWholeHouse(int what) {
            switch (what) {
                case 0:
                    return kinds.count;
                case 1:
                    return houses.count;
                case 2:
                    return doughs.count;
                case 3:
                    return heat;
                case 4:
                    return ticks;
                case 5:
                    return waiting;
                case 6:
                    return places.countFree();
                case 7:
                    return unsettled;
                case 8:
                    return useOfAll();
                case 9:
                    return logsBurnt;
                case 10:
                    return logsBrought;
                case 11:
                    return openings;
                case 12:
                    return loavesDone;
                default:
                    return spoiledEver;
            }
        }

        int doughInLine(int index) {
            return index >= 0 && index < waiting ? inLine.at(index) : NONE;
        }
    }

    /** The undo stack: a ring of states that are made once and copied into. */
    private static final class History {
        private final State[] saved;
        private int oldest;
        private int count;

        History() {
            saved = new State[UNDO_STATES];
            for (int i = 0; i < saved.length; i++) {
                saved[i] = new State();
            }
        }

        int size() {
            return count;
        }

        void save(State state) {
            State slot = slotAt(count);
            if (slot != null) {
                slot.copyFrom(state);
            }
            if (count < UNDO_STATES) {
                count++;
            } else {
                oldest = (oldest + 1) % UNDO_STATES;
            }
        }

        void restoreTo(State state) {
            if (count > 0 && state != null) {
                count--;
                state.copyFrom(slotAt(count));
            }
        }

        // The slot behind a full stack is that of its oldest state, which is dropped for it.
        private State slotAt(int index) {
            int slot = (oldest + index) % UNDO_STATES;
            return slot >= 0 && slot < saved.length ? saved[slot] : null;
        }
    }

    /** The command text, and a reader that goes through it command by command. */
    private static final class Commands {
        private final Row text = new Row(MOST_BYTES);
        private final Row numbers = new Row(MOST_NUMBERS);
        private int length;
        private int cursor;
        private int word;
        private int fault = NONE;

        int length() {
            return length;
        }

        int refusalOfByte(int value) {
            if (value < 0 || value > 127) {
                return BAD_ARGUMENT;
            }
            return length >= MOST_BYTES ? BAD_STATE : FINE;
        }

        int append(int value) {
            text.put(length, value);
            length++;
            return length;
        }

        int empty() {
            int had = length;
            length = 0;
            return had;
        }

        int word() {
            return word;
        }

        int number(int index) {
            return numbers.at(index);
        }

        void rewind() {
            cursor = 0;
            fault = NONE;
        }

        /** Returns the index of the fault of the text, NONE if it has none. */
        int findFault() {
            rewind();
            for (int i = 0; i < MOST_BYTES; i++) {
                if (!readNext()) {
                    return fault;
                }
            }
            return fault;
        }

        /** Reads the next command; false if none is left, or at a fault, which is kept. */
        boolean readNext() {
            skipSpaces();
            if (cursor >= length || !readWord()) {
                return false;
            }
            int wanted = numbersOf(word);
            for (int i = 0; i < wanted; i++) {
                if (!readNumber(i)) {
                    return false;
                }
            }
            skipSpaces();
            if (byteAtCursor() != ';') {
                return failAt(cursor);
            }
            cursor++;
            return true;
        }

        private boolean readWord() {
            int start = cursor;
            while (cursor < length && isLetter(byteAtCursor())) {
                cursor++;
            }
            word = wordBetween(start, cursor);
            return word != NONE || failAt(start);
        }

        private boolean readNumber(int index) {
            if (byteAtCursor() != ' ') {
                return failAt(cursor);
            }
            skipSpaces();
            int digits = 0;
            int value = 0;
            while (digits < MOST_DIGITS && isDigit(byteAtCursor())) {
                value = 10 * value + (byteAtCursor() - '0');
                digits++;
                cursor++;
            }
            numbers.put(index, value);
            return digits > 0 || failAt(cursor);
        }

        private boolean failAt(int index) {
            fault = index;
            return false;
        }

        private void skipSpaces() {
            while (cursor < length && byteAtCursor() == ' ') {
                cursor++;
            }
        }

        private int byteAtCursor() {
            return cursor < length ? text.at(cursor) : NONE;
        }

        private static boolean isLetter(int value) {
            return value >= 'a' && value <= 'z';
        }

        private static boolean isDigit(int value) {
            return value >= '0' && value <= '9';
        }

        private int wordBetween(int start, int end) {
            for (int candidate = 0; candidate < WORDS; candidate++) {
                if (stands(nameOf(candidate), start, end)) {
                    return candidate;
                }
            }
            return NONE;
        }

        private boolean stands(String name, int start, int end) {
            if (name.length() != end - start) {
                return false;
            }
            for (int i = 0; i < name.length(); i++) {
                if (text.at(start + i) != name.charAt(i)) {
                    return false;
                }
            }
            return true;
        }

        private static String nameOf(int word) {
            switch (word) {
                case WORD_KIND:
                    return "kind";
                case WORD_HOUSE:
                    return "house";
                case WORD_DOUGH:
                    return "dough";
                case WORD_BRING:
                    return "bring";
                case WORD_STOKE:
                    return "stoke";
                case WORD_PASS:
                    return "pass";
                case WORD_SWAP:
                    return "swap";
                default:
                    return "settle";
            }
        }

        private static int numbersOf(int word) {
            switch (word) {
                case WORD_KIND:
                    return 5;
                case WORD_DOUGH:
                    return 3;
                case WORD_BRING:
                case WORD_STOKE:
                case WORD_SWAP:
                    return 2;
                case WORD_PASS:
                    return 1;
                default:
                    return 0;
            }
        }
    }
}
