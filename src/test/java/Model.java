import java.util.ArrayDeque;
import java.util.ArrayList;
import java.util.Comparator;
import java.util.Deque;
import java.util.IdentityHashMap;
import java.util.List;
import java.util.Map;
import java.util.regex.Matcher;
import java.util.regex.Pattern;

/** A second reading of the document, in another style than the class: objects, lists, regular expressions. */
final class Model {
    /** The number makes kinds of like values differ. */
    record Kind(int number, int least, int greatest, int bake, int ripen, int keep) {
    }

    static final class House {
        int balance;
        int use;
        int paid;
        int brought;
        int done;
        int burnt;
    }

    static final class Dough {
        House house;
        Kind kind;
        int loaves;
        int age;
        int state;
        int reason;
        int tick = -1;
        int burnt;
    }

    static final class Loaf {
        Dough dough;
        int baked;
        int scorched;
    }

    static final class World {
        List<Kind> kinds = new ArrayList<>();
        List<House> houses = new ArrayList<>();
        List<Dough> doughs = new ArrayList<>();
        List<Dough> line = new ArrayList<>();
        Loaf[] places = new Loaf[12];
        int heat;
        int ticks;
        int unsettled;
        int burntLogs;
        int broughtLogs;
        int openings;
        int doneLoaves;
        int spoiled;

        World copy() {
            World w = new World();
            w.kinds.addAll(kinds);
            Map<House, House> newHouse = new IdentityHashMap<>();
            for (House h : houses) {
                House n = new House();
                n.balance = h.balance;
                n.use = h.use;
                n.paid = h.paid;
                n.brought = h.brought;
                n.done = h.done;
                n.burnt = h.burnt;
                newHouse.put(h, n);
                w.houses.add(n);
            }
            Map<Dough, Dough> newDough = new IdentityHashMap<>();
            for (Dough d : doughs) {
                Dough n = new Dough();
                n.house = newHouse.get(d.house);
                n.kind = d.kind;
                n.loaves = d.loaves;
                n.age = d.age;
                n.state = d.state;
                n.reason = d.reason;
                n.tick = d.tick;
                n.burnt = d.burnt;
                newDough.put(d, n);
                w.doughs.add(n);
            }
            for (Dough d : line) {
                w.line.add(newDough.get(d));
            }
            for (int p = 0; p < 12; p++) {
                if (places[p] != null) {
                    w.places[p] = new Loaf();
                    w.places[p].dough = newDough.get(places[p].dough);
                    w.places[p].baked = places[p].baked;
                    w.places[p].scorched = places[p].scorched;
                }
            }
            w.heat = heat;
            w.ticks = ticks;
            w.unsettled = unsettled;
            w.burntLogs = burntLogs;
            w.broughtLogs = broughtLogs;
            w.openings = openings;
            w.doneLoaves = doneLoaves;
            w.spoiled = spoiled;
            return w;
        }

        int heatOf(int p, int oven) {
            int h = oven - (p < 4 ? 0 : p < 8 ? 20 : 40);
            return h < 0 ? 0 : h;
        }

        List<Integer> free(int oven, int from, int to) {
            List<Integer> found = new ArrayList<>();
            for (int p = 0; p < 12; p++) {
                if (places[p] == null && heatOf(p, oven) >= from && heatOf(p, oven) <= to) {
                    found.add(p);
                }
            }
            return found;
        }

        int why(Dough d, int oven) {
            if (d.age < d.kind.ripen()) {
                return 2;
            }
            if (free(oven, 0, 1000).size() < d.loaves) {
                return 3;
            }
            if (free(oven, d.kind.least(), 1000).size() < d.loaves) {
                return 4;
            }
            return free(oven, d.kind.least(), d.kind.greatest()).size() < d.loaves ? 5 : 0;
        }

        int tick() {
            for (Dough d : new ArrayList<>(line)) {
                d.age++;
                if (d.age > d.kind.ripen() + d.kind.keep()) {
                    d.state = 3;
                    line.remove(d);
                    spoiled++;
                }
            }
            Dough loaded = null;
            for (Dough d : new ArrayList<>(line)) {
                int why = loaded != null ? 1 : why(d, heat);
                if (why != 0) {
                    d.reason = why;
                    continue;
                }
                loaded = d;
                line.remove(d);
                d.state = 1;
                d.tick = ticks;
                for (int p : free(heat, d.kind.least(), d.kind.greatest()).subList(0, d.loaves)) {
                    places[p] = new Loaf();
                    places[p].dough = d;
                }
            }
            for (int p = 0; p < 12; p++) {
                Loaf l = places[p];
                if (l != null) {
                    l.baked += heatOf(p, heat) >= l.dough.kind.least() ? 1 : 0;
                    l.scorched += heatOf(p, heat) > l.dough.kind.greatest() ? 1 : 0;
                    l.dough.house.use++;
                }
            }
            int out = 0;
            for (Dough d : doughs) {
                if (d.state != 1) {
                    continue;
                }
                int ready = 0;
                for (Loaf l : places) {
                    ready += l != null && l.dough == d && l.baked >= d.kind.bake() ? 1 : 0;
                }
                if (ready == d.loaves) {
                    out++;
                    d.state = 2;
                    for (int p = 0; p < 12; p++) {
                        if (places[p] != null && places[p].dough == d) {
                            d.burnt += places[p].scorched >= 3 ? 1 : 0;
                            places[p] = null;
                        }
                    }
                    d.house.done += d.loaves;
                    d.house.burnt += d.burnt;
                    doneLoaves += d.loaves;
                }
            }
            int opened = out + (loaded == null ? 0 : 1);
            openings += opened;
            heat -= 2 + 4 * opened + (loaded == null ? 0 : loaded.loaves / 2);
            heat = heat < 0 ? 0 : heat;
            ticks++;
            return out;
        }

        int useOfAll() {
            int all = 0;
            for (House h : houses) {
                all += h.use;
            }
            return all;
        }

        int[] owed() {
            int[] owed = new int[houses.size()];
            long all = useOfAll();
            if (all == 0) {
                return owed;
            }
            long left = unsettled;
            List<Integer> order = new ArrayList<>();
            for (int h = 0; h < owed.length; h++) {
                owed[h] = (int) ((long) unsettled * houses.get(h).use / all);
                left -= owed[h];
                order.add(h);
            }
            order.sort(Comparator.comparingLong(h -> -((long) unsettled * houses.get(h).use % all)));
            for (int i = 0; i < left; i++) {
                owed[order.get(i)]++;
            }
            return owed;
        }
    }

    World w = new World();
    final Deque<World> undo = new ArrayDeque<>();
    final StringBuilder text = new StringBuilder();
    /** Off while a command text runs, whose commands save no state. */
    private boolean saving = true;

    private void save() {
        if (saving) {
            undo.push(w.copy());
            if (undo.size() > 4) {
                undo.removeLast();
            }
        }
    }

    private static void arg(boolean holds) {
        if (!holds) {
            throw new IllegalArgumentException();
        }
    }

    private static void state(boolean holds) {
        if (!holds) {
            throw new IllegalStateException();
        }
    }

    private static <T> T of(List<T> list, int index) {
        if (index < 0 || index >= list.size()) {
            throw new IndexOutOfBoundsException();
        }
        return list.get(index);
    }

    private static boolean in(int value, int from, int to) {
        return from <= value && value <= to;
    }

    int addKind(int least, int greatest, int bake, int ripen, int keep) {
        arg(in(least, 50, 350) && in(greatest, least, 400) && in(bake, 1, 20) && in(ripen, 0, 30) && in(keep, 1, 40));
        state(w.kinds.size() < 5);
        save();
        w.kinds.add(new Kind(w.kinds.size(), least, greatest, bake, ripen, keep));
        return w.kinds.size() - 1;
    }

    int addHouse() {
        state(w.houses.size() < 8);
        save();
        w.houses.add(new House());
        return w.houses.size() - 1;
    }

    int addDough(int house, int kind, int loaves) {
        of(w.houses, house);
        Kind k = of(w.kinds, kind);
        arg(in(loaves, 1, 4));
        state(w.doughs.size() < 16);
        save();
        Dough d = new Dough();
        d.house = w.houses.get(house);
        d.kind = k;
        d.loaves = loaves;
        w.doughs.add(d);
        w.line.add(d);
        return w.doughs.size() - 1;
    }

    int clearDoughs() {
        save();
        w.doughs.removeIf(d -> d.state >= 2);
        return w.doughs.size();
    }

    int swap(int dough, int other) {
        Dough a = of(w.doughs, dough);
        Dough b = of(w.doughs, other);
        arg(a != b);
        state(a.state == 0 && b.state == 0);
        save();
        a = w.doughs.get(dough);
        b = w.doughs.get(other);
        int i = w.line.indexOf(a);
        int j = w.line.indexOf(b);
        w.line.set(i, b);
        w.line.set(j, a);
        return j;
    }

    int bring(int house, int logs) {
        House h = of(w.houses, house);
        arg(in(logs, 1, 99));
        state(h.balance + logs <= 999);
        save();
        h.balance += logs;
        h.brought += logs;
        w.broughtLogs += logs;
        return h.balance;
    }

    int stoke(int house, int logs) {
        House h = of(w.houses, house);
        arg(in(logs, 1, 16));
        state(h.balance - logs >= -20 && w.heat + 25 * logs <= 400);
        save();
        h.balance -= logs;
        h.paid += logs;
        w.unsettled += logs;
        w.burntLogs += logs;
        w.heat += 25 * logs;
        return w.heat;
    }

    int settle() {
        save();
        if (w.useOfAll() == 0) {
            return 0;
        }
        int settled = w.unsettled;
        int[] owed = w.owed();
        for (int i = 0; i < owed.length; i++) {
            House h = w.houses.get(i);
            h.balance += h.paid - owed[i];
            h.use = 0;
            h.paid = 0;
        }
        w.unsettled = 0;
        return settled;
    }

    int pass(int ticks) {
        arg(in(ticks, 1, 100));
        state(w.ticks + ticks <= 100000);
        save();
        int out = 0;
        for (int i = 0; i < ticks; i++) {
            out += w.tick();
        }
        return out;
    }

    int kind(int kind, int what) {
        Kind k = of(w.kinds, kind);
        arg(in(what, 0, 4));
        return new int[] {k.least(), k.greatest(), k.bake(), k.ripen(), k.keep()}[what];
    }

    int house(int house, int what) {
        House h = of(w.houses, house);
        arg(in(what, 0, 6));
        int mine = (int) w.doughs.stream().filter(d -> d.house == h).count();
        return new int[] {h.balance, h.use, h.paid, h.brought, mine, h.done, h.burnt}[what];
    }

    int dough(int dough, int what) {
        Dough d = of(w.doughs, dough);
        arg(in(what, 0, 9));
        int set = 0;
        for (int p = 0; p < 12; p++) {
            set |= w.places[p] != null && w.places[p].dough == d ? 1 << p : 0;
        }
        return new int[] {w.houses.indexOf(d.house), d.kind.number(), d.loaves, d.age, d.state, d.reason,
            d.tick, w.line.indexOf(d), set, d.burnt}[what];
    }

    int place(int place, int what) {
        if (!in(place, 0, 11)) {
            throw new IndexOutOfBoundsException();
        }
        arg(in(what, 0, 3));
        Loaf l = w.places[place];
        int heat = w.heatOf(place, w.heat);
        return (l == null ? new int[] {heat, -1, -1, -1}
            : new int[] {heat, w.doughs.indexOf(l.dough), l.baked, l.scorched})[what];
    }

    int whole(int what) {
        arg(in(what, 0, 14));
        return new int[] {w.kinds.size(), w.houses.size(), w.doughs.size(), w.heat, w.ticks, w.line.size(),
            w.free(0, 0, 0).size(), w.unsettled, w.useOfAll(), w.burntLogs, w.broughtLogs, w.openings, w.doneLoaves,
            w.spoiled, text.length()}[what];
    }

    int line(int index) {
        arg(index >= 0);
        return index < w.line.size() ? w.doughs.indexOf(w.line.get(index)) : -1;
    }

    int reason(int dough) {
        Dough d = of(w.doughs, dough);
        return d.state != 0 ? -1 : w.why(d, w.heat);
    }

    int loadedIn(int dough) {
        Dough d = of(w.doughs, dough);
        if (d.state != 0) {
            return -1;
        }
        World later = w.copy();
        for (int i = 1; i <= 60; i++) {
            later.tick();
            if (later.doughs.get(dough).tick >= 0) {
                return i;
            }
        }
        return -1;
    }

    int neededLogs(int dough) {
        Dough d = of(w.doughs, dough);
        for (int n = 0; d.state == 0 && n <= 16; n++) {
            if (w.heat + 25 * n <= 400 && w.why(d, w.heat + 25 * n) == 0) {
                return n;
            }
        }
        return -1;
    }

    int heatIn(int ticks) {
        arg(in(ticks, 0, 100));
        World later = w.copy();
        for (int i = 0; i < ticks; i++) {
            later.tick();
        }
        return later.heat;
    }

    int spoiledIn(int ticks) {
        arg(in(ticks, 0, 100));
        World later = w.copy();
        for (int i = 0; i < ticks; i++) {
            later.tick();
        }
        int set = 0;
        for (int d = 0; d < w.doughs.size(); d++) {
            set |= w.doughs.get(d).state == 0 && later.doughs.get(d).state == 3 ? 1 << d : 0;
        }
        return set;
    }

    int owes(int house) {
        of(w.houses, house);
        return w.owed()[house];
    }

    int type(int value) {
        arg(in(value, 0, 127));
        state(text.length() < 150);
        text.append((char) value);
        return text.length();
    }

    int clearCommands() {
        int had = text.length();
        text.setLength(0);
        return had;
    }

    private static final Pattern WORD = Pattern.compile("kind|house|dough|bring|stoke|pass|swap|settle");
    private static final Pattern WHOLE = Pattern.compile("( *(kind( +[0-9]{1,3}){5}|dough( +[0-9]{1,3}){3}"
        + "|(bring|stoke|swap)( +[0-9]{1,3}){2}|pass( +[0-9]{1,3})|house|settle) *;)* *");

    private static boolean letter(String s, int i) {
        return i >= 0 && i < s.length() && s.charAt(i) >= 'a' && s.charAt(i) <= 'z';
    }

    /** The first byte behind which no good text can go on, then the rule for words that are none. */
    static int fault(String s) {
        if (WHOLE.matcher(s).matches()) {
            return -1;
        }
        int i = 0;
        while (i < s.length()) {
            Matcher m = WHOLE.matcher(s.substring(0, i + 1));
            if (!m.matches() && !m.hitEnd()) {
                break;
            }
            i++;
        }
        if (!letter(s, i - 1)) {
            return i;
        }
        int start = i;
        while (letter(s, start - 1)) {
            start--;
        }
        return letter(s, i) || !WORD.matcher(s.substring(start, i)).matches() ? start : i;
    }

    int runCommands() {
        int fault = fault(text.toString());
        if (fault >= 0) {
            return -10 - fault;
        }
        save();
        saving = false;
        int done = 0;
        try {
            for (String command : text.toString().split(";")) {
                if (!command.isBlank()) {
                    carryOut(command.trim().split(" +"));
                    done++;
                }
            }
        } catch (RuntimeException e) {
            // It stops here; what was done stays.
        }
        saving = true;
        return done;
    }

    private void carryOut(String[] parts) {
        int[] n = new int[6];
        for (int i = 1; i < parts.length; i++) {
            n[i] = Integer.parseInt(parts[i]);
        }
        switch (parts[0]) {
            case "kind" -> addKind(n[1], n[2], n[3], n[4], n[5]);
            case "house" -> addHouse();
            case "dough" -> addDough(n[1], n[2], n[3]);
            case "bring" -> bring(n[1], n[2]);
            case "stoke" -> stoke(n[1], n[2]);
            case "pass" -> pass(n[1]);
            case "swap" -> swap(n[1], n[2]);
            default -> settle();
        }
    }

    int undo() {
        state(!undo.isEmpty());
        w = undo.pop();
        return undo.size();
    }

    long digest() {
        List<Integer> v = new ArrayList<>();
        v.add(undo.size());
        for (int i = 0; i < 15; i++) {
            v.add(whole(i));
        }
        for (int k = 0; k < w.kinds.size(); k++) {
            for (int i = 0; i < 5; i++) {
                v.add(kind(k, i));
            }
        }
        for (int h = 0; h < w.houses.size(); h++) {
            for (int i = 0; i < 7; i++) {
                v.add(house(h, i));
            }
            v.add(owes(h));
        }
        for (int d = 0; d < w.doughs.size(); d++) {
            for (int i = 0; i < 10; i++) {
                v.add(dough(d, i));
            }
            v.add(reason(d));
        }
        for (int p = 0; p < 12; p++) {
            for (int i = 0; i < 4; i++) {
                v.add(place(p, i));
            }
        }
        for (int i = 0; i < w.line.size(); i++) {
            v.add(line(i));
        }
        v.add(heatIn(10));
        long h = 43350;
        for (int x : v) {
            h = 31 * h + x;
        }
        return h;
    }
}
