import java.util.ArrayList;
import java.util.Arrays;
import java.util.List;
import java.util.regex.Matcher;
import java.util.regex.Pattern;

/**
 * The document written a second time, as plainly as it goes and by other means than the class: all orders and
 * all runs are tried, persons are seated one by one, conditions are trees, things are classes of their own, rows
 * are Java's arrays, and what the host refuses is what Java throws. It is slow, and is for ModelTest alone.
 */
final class Model {
    static final int BAD = -1, FULL = -2, NONE = -3, STATE = -4;

    record Sounding(int cell, int minute, int from, int to) { }
    record Way(int a, int b, int minutes, int till) { }
    record Group(int n, int kind, int place, int told) { }
    record Boat(int seats, int place, int lowered, int reading) { }
    record Ship(int x, int y, int speed, int first, int last, int range) { }
    record Light(int minute, int from, int to) { }
    record Version(int from, List<Line> lines) { }
    record Leg(int miles, int ice) { }

    /** All that keep() keeps. */
    static final class Kept {
        int now;
        int sunk = NONE;
        int[] room = new int[8], water = new int[8], hole = new int[8], pump = new int[8], height = new int[7];
        boolean[] open = new boolean[7];
        List<Sounding> soundings = new ArrayList<>();
        List<Way> ways = new ArrayList<>();
        List<Group> groups = new ArrayList<>();
        List<Boat> boats = new ArrayList<>();
        List<Ship> ships = new ArrayList<>();
        List<Integer> calls = new ArrayList<>();
        List<Light> lights = new ArrayList<>();
        int ready = 10;
        int[] lists = new int[3];
        List<int[]> words = new ArrayList<>();
        List<Version> versions = new ArrayList<>();
        List<Leg> legs = new ArrayList<>();

        Kept() {
            Arrays.fill(room, 100);
            Arrays.fill(height, 100);
        }

        Kept copy() {
            Kept k = new Kept();
            k.now = now;
            k.sunk = sunk;
            k.room = room.clone();
            k.water = water.clone();
            k.hole = hole.clone();
            k.pump = pump.clone();
            k.height = height.clone();
            k.open = open.clone();
            k.soundings = new ArrayList<>(soundings);
            k.ways = new ArrayList<>(ways);
            k.groups = new ArrayList<>(groups);
            k.boats = new ArrayList<>(boats);
            k.ships = new ArrayList<>(ships);
            k.calls = new ArrayList<>(calls);
            k.lights = new ArrayList<>(lights);
            k.ready = ready;
            k.lists = lists.clone();
            for (int[] w : words) {
                k.words.add(w.clone());
            }
            k.versions = new ArrayList<>(versions);
            k.legs = new ArrayList<>(legs);
            return k;
        }

        int level(int i) {
            return 100 * water[i] / room[i];
        }

        int outside(int i) {
            int depth = 40 + Arrays.stream(water).sum() / 20;
            int moment = 0;
            for (int c = 0; c < 8; c++) {
                moment += water[c] * (7 - 2 * c);
            }
            int tilt = moment / 100;
            int o = depth + tilt * (7 - 2 * i) / 7;
            return o < 0 ? 0 : o > 100 ? 100 : o;
        }

        void minute() {
            now++;
            if (sunk >= 0) {
                return;
            }
            int[] after = water.clone();
            for (int i = 0; i < 8; i++) {
                int in = hole[i] * (outside(i) - level(i)) / 10;
                after[i] += (in > 0 ? in : 0) - pump[i];
            }
            for (int w = 0; w < 7; w++) {
                int sill = open[w] ? 0 : height[w];
                int high = level(w) >= level(w + 1) ? w : w + 1;
                int low = 2 * w + 1 - high;
                if (level(high) > sill && level(high) > level(low)) {
                    int tons = (level(high) - Math.max(sill, level(low))) / 4;
                    after[high] -= tons;
                    after[low] += tons;
                }
            }
            for (int i = 0; i < 8; i++) {
                water[i] = Math.min(room[i], Math.max(0, after[i]));
            }
            if (outside(0) == 100 || outside(7) == 100) {
                sunk = now;
            }
        }

        boolean explains(int cells, int rate) {
            Kept k = new Kept();
            k.room = room;
            k.pump = pump;
            k.height = height;
            k.open = open;
            for (int i = 0; i < 8; i++) {
                k.hole[i] = (cells & 1 << i) != 0 ? rate : 0;
            }
            for (int m = 0; m <= 60; m++) {
                for (Sounding s : soundings) {
                    if (s.minute == m && (k.water[s.cell] < s.from || k.water[s.cell] > s.to)) {
                        return false;
                    }
                }
                k.minute();
            }
            return true;
        }

        /** By the shortest-way rule of all pairs that can be walked, one PLACE fixed at a time. */
        int reach(int group, int place) {
            int[] at = new int[8];
            boolean[] fixed = new boolean[8];
            Arrays.fill(at, Integer.MAX_VALUE);
            at[groups.get(group).place] = groups.get(group).told;
            for (int round = 0; round < 8; round++) {
                int next = -1;
                for (int p = 0; p < 8; p++) {
                    if (!fixed[p] && at[p] != Integer.MAX_VALUE && (next < 0 || at[p] < at[next])) {
                        next = p;
                    }
                }
                if (next < 0) {
                    break;
                }
                fixed[next] = true;
                for (Way w : ways) {
                    if (w.a == next || w.b == next) {
                        int to = w.a == next ? w.b : w.a;
                        at[to] = Math.min(at[to], Math.max(at[next], w.till) + w.minutes);
                    }
                }
            }
            return at[place] == Integer.MAX_VALUE ? NONE : at[place];
        }

        boolean[][] can(int[] lowered) {
            boolean[][] can = new boolean[groups.size()][boats.size()];
            for (int g = 0; g < groups.size(); g++) {
                for (int b = 0; b < boats.size(); b++) {
                    int at = reach(g, boats.get(b).place);
                    can[g][b] = at != NONE && at <= lowered[b] && (boats.get(b).reading == 1 || groups.get(g).kind < 2);
                }
            }
            return can;
        }

        int[] lowered() {
            return boats.stream().mapToInt(Boat::lowered).toArray();
        }

        int[] persons() {
            return groups.stream().mapToInt(Group::n).toArray();
        }

        int[] seats() {
            return boats.stream().mapToInt(Boat::seats).toArray();
        }

        int far(int s) {
            return Math.abs(ships.get(s).x - 50) + Math.abs(ships.get(s).y - 50);
        }

        boolean hears(int s, int c) {
            Ship ship = ships.get(s);
            return calls.get(c) >= ship.first && calls.get(c) <= ship.last && far(s) <= ship.range;
        }

        int earliest(int s) {
            int e = NONE;
            for (int c = 0; c < calls.size(); c++) {
                if (hears(s, c) && (e == NONE || calls.get(c) < e)) {
                    e = calls.get(c);
                }
            }
            return e;
        }

        int standing(int k) {
            int bits = 0;
            for (int i = 0; i < words.size(); i++) {
                if (stands(i, k)) {
                    bits |= 1 << i;
                }
            }
            return bits;
        }

        private boolean stands(int i, int k) {
            int[] w = words.get(i);
            boolean yes = w[1] <= k && (w[2] < 0 || w[2] > k);
            for (int on = 0; on < i && yes; on++) {
                if ((w[0] & 1 << on) != 0) {
                    yes = stands(on, k);
                }
            }
            return yes;
        }

        List<Line> rules(int minute) {
            List<Line> r = List.of();
            for (Version v : versions) {
                if (v.from <= minute) {
                    r = v.lines;
                }
            }
            return r;
        }
    }

    /** Seats persons one by one, each by moving others on, if need be. */
    static int most(int[] persons, int[] seats, boolean[][] can) {
        int[][] in = new int[persons.length][seats.length];
        int[] used = new int[seats.length];
        int all = 0;
        for (int g = 0; g < persons.length; g++) {
            for (int n = 0; n < persons[g]; n++) {
                if (!place(g, seats, can, in, used, new boolean[seats.length])) {
                    break;
                }
                all++;
            }
        }
        return all;
    }

    private static boolean place(int g, int[] seats, boolean[][] can, int[][] in, int[] used, boolean[] seen) {
        for (int b = 0; b < seats.length; b++) {
            if (!can[g][b] || seen[b]) {
                continue;
            }
            seen[b] = true;
            if (used[b] < seats[b]) {
                used[b]++;
                in[g][b]++;
                return true;
            }
            for (int h = 0; h < in.length; h++) {
                if (in[h][b] > 0) {
                    in[h][b]--;
                    if (place(h, seats, can, in, used, seen)) {
                        in[g][b]++;
                        return true;
                    }
                    in[h][b]++;
                }
            }
        }
        return false;
    }

    // ---- rules

    sealed interface Line permits Seats, First, Come { }
    record Seats(int a, int b) implements Line { }
    record First(List<Integer> kinds) implements Line { }
    record Come(Cond cond) implements Line { }

    interface Cond {
        boolean holds(boolean heard, int far, int speed, int minute);
    }

    private static final class Fault extends Exception {
        private static final long serialVersionUID = 1L;
        final int at;

        Fault(int at) {
            super("at " + at, null, false, false);
            this.at = at;
        }
    }

    private static final class Texts {
        final List<String> tokens = new ArrayList<>();
        final List<Integer> places = new ArrayList<>();
        int i = 0;

        Texts(String tape) {
            Matcher m = Pattern.compile(" +|[a-z]+|[0-9]+|.", Pattern.DOTALL).matcher(tape);
            while (m.find()) {
                if (m.group().charAt(0) != ' ') {
                    tokens.add(m.group());
                    places.add(m.start());
                }
            }
            tokens.add("");
            places.add(tape.length());
        }

        String look() {
            return tokens.get(i);
        }

        boolean has(String t) {
            if (look().equals(t)) {
                i++;
                return true;
            }
            return false;
        }

        void need(String t) throws Fault {
            if (!has(t)) {
                throw fault();
            }
        }

        Fault fault() {
            return new Fault(places.get(i));
        }

        int number(int least) throws Fault {
            if (!look().matches("[0-9]{1,3}") || Integer.parseInt(look()) < least) {
                throw fault();
            }
            return Integer.parseInt(tokens.get(i++));
        }

        List<Line> text() throws Fault {
            List<Line> lines = new ArrayList<>();
            while (!look().isEmpty()) {
                if (lines.size() == 8) {
                    throw fault();
                }
                lines.add(line());
                need(";");
            }
            return lines;
        }

        Line line() throws Fault {
            if (has("seats")) {
                int a = number(0);
                need("for");
                return new Seats(a, number(1));
            }
            if (has("first")) {
                List<Integer> kinds = new ArrayList<>();
                do {
                    int kind = List.of("children", "women", "men").indexOf(look());
                    if (kind < 0 || kinds.contains(kind)) {
                        throw fault();
                    }
                    kinds.add(kind);
                    i++;
                } while (has("then"));
                return new First(kinds);
            }
            need("come");
            need("if");
            return new Come(cond(0));
        }

        Cond cond(int open) throws Fault {
            Cond c = all(open);
            while (has("or")) {
                Cond left = c;
                Cond right = all(open);
                c = (h, f, s, m) -> left.holds(h, f, s, m) || right.holds(h, f, s, m);
            }
            return c;
        }

        Cond all(int open) throws Fault {
            Cond c = one(open);
            while (has("and")) {
                Cond left = c;
                Cond right = one(open);
                c = (h, f, s, m) -> left.holds(h, f, s, m) && right.holds(h, f, s, m);
            }
            return c;
        }

        Cond one(int open) throws Fault {
            if (has("not")) {
                Cond c = one(open);
                return (h, f, s, m) -> !c.holds(h, f, s, m);
            }
            if (look().equals("(") && open < 4) {
                i++;
                Cond c = cond(open + 1);
                need(")");
                return c;
            }
            if (has("heard")) {
                return (h, f, s, m) -> h;
            }
            String name = look();
            if (!List.of("far", "speed", "minute").contains(name)) {
                throw fault();
            }
            i++;
            String sign = look();
            if (!List.of("<", "=", ">").contains(sign)) {
                throw fault();
            }
            i++;
            int n = number(0);
            return (h, f, s, m) -> {
                int v = name.equals("far") ? f : name.equals("speed") ? s : m;
                return sign.equals("<") ? v < n : sign.equals("=") ? v == n : v > n;
            };
        }
    }

    // ---- things

    private class Thing {
        final int n;

        Thing(int n) {
            this.n = n;
        }

        int a() {
            return 0;
        }

        int fills(int x) {
            ran(10);
            return x + a();
        }

        int carries(int x) {
            ran(11);
            return fills(x) * 2 - n;
        }

        int fits(int x) {
            ran(12);
            return x / (a() - n);
        }

        int tells(int x) {
            ran(13);
            return carries(x) ^ a();
        }
    }

    private final class CellThing extends Thing {
        CellThing(int n) {
            super(n);
        }

        @Override int a() {
            return k.room[n];
        }

        @Override int fills(int x) {
            ran(20);
            return super.fills(x) - 40;
        }

        @Override int fits(int x) {
            ran(21);
            return super.fits(x) + fills(1);
        }
    }

    private class BoatThing extends Thing {
        BoatThing(int n) {
            super(n);
        }

        @Override int a() {
            return k.boats.get(n).seats;
        }

        @Override int carries(int x) {
            ran(30);
            return super.carries(x) + a();
        }
    }

    private final class LightBoat extends BoatThing {
        LightBoat(int n) {
            super(n);
        }

        @Override int fills(int x) {
            ran(40);
            return super.fills(x) * 3;
        }

        @Override int tells(int x) {
            ran(41);
            return super.tells(x) - 1;
        }
    }

    private class CallThing extends Thing {
        CallThing(int n) {
            super(n);
        }

        @Override int a() {
            return k.calls.get(n);
        }

        @Override int tells(int x) {
            ran(50);
            return super.tells(x) ^ fills(x);
        }
    }

    private final class OrderThing extends CallThing {
        OrderThing(int n) {
            super(n);
        }

        @Override int a() {
            return k.lights.get(n).minute;
        }

        @Override int carries(int x) {
            ran(60);
            return 0 - super.carries(x);
        }
    }

    private final class WordThing extends Thing {
        WordThing(int n) {
            super(n);
        }

        @Override int a() {
            return k.words.get(n)[0];
        }

        @Override int fits(int x) {
            ran(70);
            return super.fits(x * 2);
        }

        @Override int carries(int x) {
            ran(71);
            return super.carries(x) + fills(0);
        }
    }

    private void ran(int body) {
        if (trace.size() < 30) {
            trace.add(body);
        }
    }

    // ---- the state, and the face

    Kept k = new Kept();
    private Kept kept = null;
    private final StringBuilder tape = new StringBuilder();
    private List<int[]> rows = new ArrayList<>();
    private final Object[] sheets = new Object[4];
    private final int[] shelfWhat = {6, 6, 6, 6};
    private final int[] shelfN = new int[4];
    private final Object[] shelfRow = new Object[4];
    private final List<Integer> trace = new ArrayList<>();

    private static boolean out(int v, int least, int greatest) {
        return v < least || v > greatest;
    }

    int minutes(int n) {
        if (out(n, 1, 200)) return BAD;
        if (k.now + n > 999) return STATE;
        for (int i = 0; i < n; i++) k.minute();
        return k.now;
    }

    int set(int cell, int what, int v) {
        if (out(cell, 0, 7) || out(what, 0, 2)) return BAD;
        if (what == 0 ? out(v, 10, 999) : out(v, 0, 9)) return BAD;
        int[] of = List.of(k.room, k.hole, k.pump).get(what);
        int was = of[cell];
        of[cell] = v;
        k.water[cell] = Math.min(k.water[cell], k.room[cell]);
        return was;
    }

    int wall(int wall, int height) {
        if (out(wall, 0, 6) || out(height, 0, 100)) return BAD;
        int was = k.height[wall];
        k.height[wall] = height;
        return was;
    }

    int door(int wall, boolean open) {
        if (out(wall, 0, 6)) return BAD;
        int was = k.open[wall] ? 1 : 0;
        k.open[wall] = open;
        return was;
    }

    int cell(int cell, int what) {
        if (out(cell, 0, 7) || out(what, 0, 2)) return BAD;
        return what == 0 ? k.water[cell] : what == 1 ? k.level(cell) : k.outside(cell);
    }

    int sunk() {
        return k.sunk;
    }

    int sinks(int wall, int height) {
        if (out(wall, -1, 6) || out(height, 0, 100)) return BAD;
        if (k.sunk >= 0) return STATE;
        Kept t = k.copy();
        if (wall >= 0) t.height[wall] = height;
        while (t.now < 999 && t.sunk < 0) t.minute();
        return t.sunk;
    }

    int sounding(int cell, int minute, int from, int to) {
        if (out(cell, 0, 7) || out(minute, 0, 60) || out(from, 0, 999) || out(to, 0, 999) || to < from) return BAD;
        if (k.soundings.size() == 16) return FULL;
        k.soundings.add(new Sounding(cell, minute, from, to));
        return k.soundings.size() - 1;
    }

    int explained(int what) {
        if (out(what, 0, 1)) return BAD;
        int best = NONE;
        int bestKey = Integer.MAX_VALUE;
        for (int cells = 0; cells < 256; cells++) {
            for (int rate = 1; rate <= 9; rate++) {
                int key = (Integer.bitCount(cells) * 10 + rate) * 256 + cells;
                if (key < bestKey && k.explains(cells, rate)) {
                    bestKey = key;
                    best = what == 0 ? cells : rate;
                }
            }
        }
        return best;
    }

    int way(int a, int b, int minutes, int till) {
        if (out(a, 0, 7) || out(b, 0, 7) || a == b || out(minutes, 1, 20) || out(till, 0, 999)) return BAD;
        if (k.ways.size() == 12) return FULL;
        k.ways.add(new Way(a, b, minutes, till));
        return k.ways.size() - 1;
    }

    int group(int n, int kind, int place, int told) {
        if (out(n, 1, 50) || out(kind, 0, 2) || out(place, 0, 7) || out(told, 0, 999)) return BAD;
        if (k.groups.size() == 10) return FULL;
        k.groups.add(new Group(n, kind, place, told));
        return k.groups.size() - 1;
    }

    int reach(int group, int place) {
        if (out(group, 0, k.groups.size() - 1) || out(place, 0, 7)) return BAD;
        return k.reach(group, place);
    }

    int boat(int seats, int place, int lowered, int reading) {
        if (out(seats, 1, 65) || out(place, 0, 7) || out(lowered, 0, 999) || out(reading, 0, 1)) return BAD;
        if (k.boats.size() == 8) return FULL;
        k.boats.add(new Boat(seats, place, lowered, reading));
        return k.boats.size() - 1;
    }

    int can(int group) {
        if (out(group, 0, k.groups.size() - 1)) return BAD;
        boolean[] can = k.can(k.lowered())[group];
        int bits = 0;
        for (int b = 0; b < can.length; b++) bits |= can[b] ? 1 << b : 0;
        return bits;
    }

    int most() {
        return most(k.persons(), k.seats(), k.can(k.lowered()));
    }

    int seat() {
        int[] persons = k.persons();
        int[] seats = k.seats();
        boolean[][] can = k.can(k.lowered());
        rows = new ArrayList<>();
        int all = most(persons, seats, can);
        for (int g = 0; g < persons.length; g++) {
            for (int b = 0; b < seats.length; b++) {
                if (!can[g][b]) continue;
                can[g][b] = false;
                int n = Math.min(persons[g], seats[b]);
                persons[g] -= n;
                seats[b] -= n;
                while (n + most(persons, seats, can) < all) {
                    n--;
                    persons[g]++;
                    seats[b]++;
                }
                all -= n;
                if (n > 0) rows.add(new int[] {g, b, n});
            }
        }
        return rows.size();
    }

    int row(int i, int what) {
        return out(i, 0, rows.size() - 1) || out(what, 0, 2) ? -9 : rows.get(i)[what];
    }

    int alterRow(int i, int what, int v) {
        int was = row(i, what);
        if (!out(i, 0, rows.size() - 1) && !out(what, 0, 2)) rows.get(i)[what] = v;
        return was;
    }

    int judge() {
        boolean[][] can = k.can(k.lowered());
        long all = 0;
        for (int i = 0; i < rows.size(); i++) {
            int[] r = rows.get(i);
            boolean right = !out(r[0], 0, k.groups.size() - 1) && !out(r[1], 0, k.boats.size() - 1) && r[2] >= 1 && can[r[0]][r[1]];
            if (right && i > 0) right = rows.get(i - 1)[0] * 8 + rows.get(i - 1)[1] < r[0] * 8 + r[1];
            long ofGroup = 0;
            long ofBoat = 0;
            for (int j = 0; j <= i && right; j++) {
                ofGroup += rows.get(j)[0] == r[0] ? rows.get(j)[2] : 0;
                ofBoat += rows.get(j)[1] == r[1] ? rows.get(j)[2] : 0;
            }
            if (!right || ofGroup > k.groups.get(r[0]).n || ofBoat > k.boats.get(r[1]).seats) return -100 - i;
            all += r[2];
        }
        return (int) all;
    }

    int order(int boats, int labour, int what) {
        if (boats <= 0 || boats >= 1 << k.boats.size() || out(labour, 1, 30) || what < -1) return BAD;
        if (Integer.bitCount(boats) > 6) return FULL;
        if (what >= Integer.bitCount(boats)) return NONE;
        bestMost = -1;
        orders(boats, labour, new ArrayList<>());
        return what == -1 ? bestMost : bestOrder.get(what);
    }

    private int bestMost;
    private List<Integer> bestOrder;

    private void orders(int left, int labour, List<Integer> order) {
        if (left == 0) {
            int[] lowered = k.lowered();
            for (int i = 0; i < order.size(); i++) lowered[order.get(i)] = k.now + (i + 1) * labour;
            int most = most(k.persons(), k.seats(), k.can(lowered));
            if (most > bestMost) {
                bestMost = most;
                bestOrder = new ArrayList<>(order);
            }
        }
        for (int b = 0; b < 8; b++) {
            if ((left & 1 << b) != 0) {
                order.add(b);
                orders(left & ~(1 << b), labour, order);
                order.remove(order.size() - 1);
            }
        }
    }

    int ship(int at, int speed, int ears, int range) {
        if (at < 0 || at > 9999 || out(speed, 1, 40) || ears < 0 || out(range, 0, 200)) return BAD;
        if (ears / 1000 > 999 || ears % 1000 < ears / 1000) return BAD;
        if (k.ships.size() == 6) return FULL;
        k.ships.add(new Ship(at / 100, at % 100, speed, ears / 1000, ears % 1000, range));
        return k.ships.size() - 1;
    }

    int ready(int n) {
        if (out(n, 0, 60)) return BAD;
        int was = k.ready;
        k.ready = n;
        return was;
    }

    int call(int minute) {
        if (out(minute, 0, 999)) return BAD;
        if (k.calls.size() == 10) return FULL;
        k.calls.add(minute);
        return k.calls.size() - 1;
    }

    int hears(int call) {
        if (out(call, 0, k.calls.size() - 1)) return BAD;
        int bits = 0;
        for (int s = 0; s < k.ships.size(); s++) bits |= k.hears(s, call) ? 1 << s : 0;
        return bits;
    }

    int comes(int ship) {
        if (out(ship, 0, k.ships.size() - 1)) return BAD;
        int e = k.earliest(ship);
        if (e == NONE) return NONE;
        return e + k.ready + (int) Math.ceil(10.0 * k.far(ship) / k.ships.get(ship).speed);
    }

    int light(int minute, int from, int to) {
        if (out(minute, 0, 999) || out(from, 0, 200) || out(to, 0, 200) || to < from) return BAD;
        if (k.lights.size() == 8) return FULL;
        k.lights.add(new Light(minute, from, to));
        return k.lights.size() - 1;
    }

    int mayBe(int light) {
        if (out(light, 0, k.lights.size() - 1)) return BAD;
        Light l = k.lights.get(light);
        int bits = 0;
        for (int s = 0; s < k.ships.size(); s++) {
            int e = k.earliest(s);
            int since = e == NONE ? 0 : Math.max(0, l.minute - (e + k.ready));
            int far = Math.max(0, k.far(s) - k.ships.get(s).speed * since / 10);
            bits |= far >= l.from && far <= l.to ? 1 << s : 0;
        }
        return bits;
    }

    int sure(int light) {
        int bits = mayBe(light);
        if (bits == BAD) return BAD;
        for (int s = 0; s < 6; s++) {
            if (bits == 1 << s) return s;
        }
        return NONE;
    }

    int list(int office, int names) {
        if (out(office, 0, 2) || names < 0 || names >= 1 << 30) return BAD;
        int was = k.lists[office];
        k.lists[office] = names;
        return was;
    }

    int names(int what) {
        if (out(what, 0, 1)) return BAD;
        int bits = 0;
        for (int n = 0; n < 30; n++) {
            int on = 0;
            for (int list : k.lists) on += list >> n & 1;
            bits |= (what == 0 ? on >= 2 : on == 1) ? 1 << n : 0;
        }
        return bits;
    }

    int sworn(int leans) {
        if (leans < 0 || leans >= 1 << k.words.size()) return BAD;
        if (k.words.size() == 12) return FULL;
        k.words.add(new int[] {leans, k.now, -1});
        return k.words.size() - 1;
    }

    int takeBack(int word) {
        if (out(word, 0, k.words.size() - 1)) return BAD;
        if (k.words.get(word)[2] >= 0) return STATE;
        k.words.get(word)[2] = k.now;
        return Integer.bitCount(k.standing(k.now));
    }

    int standing(int at) {
        return out(at, 0, 999) ? BAD : k.standing(at);
    }

    int feed(long eight, int n) {
        if (out(n, 1, 8)) return BAD;
        if (tape.length() + n > 200) return FULL;
        for (int i = 0; i < n; i++) {
            tape.append((char) (eight & 255));
            eight >>>= 8;
        }
        return tape.length();
    }

    int read() {
        String text = tape.toString();
        tape.setLength(0);
        try {
            List<Line> lines = new Texts(text).text();
            if (k.versions.size() == 6) return FULL;
            k.versions.add(new Version(k.now, lines));
            return k.versions.size() - 1;
        } catch (Fault f) {
            return -100 - f.at;
        }
    }

    int version(int v, int what) {
        if (out(v, 0, k.versions.size() - 1)) return BAD;
        Version version = k.versions.get(v);
        if (what == 0) return version.lines.size();
        if (what == 1) return version.from;
        if (out(what, 10, 9 + version.lines.size())) return BAD;
        Line l = version.lines.get(what - 10);
        return l instanceof Seats ? 0 : l instanceof First ? 1 : 2;
    }

    int lack(int minute) {
        if (out(minute, 0, 999)) return BAD;
        int lack = 0;
        for (Line l : k.rules(minute)) {
            if (l instanceof Seats s) {
                lack = Math.max(0, s.a * (Arrays.stream(k.room).sum() / s.b) - Arrays.stream(k.seats()).sum());
            }
        }
        return lack;
    }

    int rank(int kind, int minute) {
        if (out(kind, 0, 2) || out(minute, 0, 999)) return BAD;
        int rank = 9;
        for (Line l : k.rules(minute)) {
            if (l instanceof First f) rank = f.kinds.contains(kind) ? f.kinds.indexOf(kind) : 9;
        }
        return rank;
    }

    int must(int ship, int minute) {
        if (out(ship, 0, k.ships.size() - 1) || out(minute, 0, 999)) return BAD;
        boolean heard = false;
        for (int c = 0; c < k.calls.size(); c++) heard |= k.calls.get(c) <= minute && k.hears(ship, c);
        for (Line l : k.rules(minute)) {
            if (l instanceof Come c && c.cond.holds(heard, k.far(ship), k.ships.get(ship).speed, minute)) return 1;
        }
        return 0;
    }

    int leg(int miles, int ice) {
        if (out(miles, 1, 99) || out(ice, 0, 9)) return BAD;
        if (k.legs.size() == 7) return FULL;
        k.legs.add(new Leg(miles, ice));
        return k.legs.size();
    }

    int run(int limit, int what) {
        int n = k.legs.size();
        if (out(limit, 0, 9999) || out(what, -2, n - 1)) return BAD;
        int[] best = null;
        int bestRisk = 0;
        int bestMinutes = 0;
        for (int code = 0; code < 1 << 2 * n; code++) {
            int[] speeds = new int[n];
            int risk = 0;
            int minutes = 0;
            for (int i = 0; i < n; i++) {
                Leg l = k.legs.get(i);
                speeds[i] = 1 + (code >> 2 * (n - 1 - i) & 3);
                minutes += -Math.floorDiv(-12 * l.miles, speeds[i]);
                risk += l.ice * l.miles * speeds[i] * speeds[i];
            }
            boolean better = best == null || risk < bestRisk || (risk == bestRisk && minutes < bestMinutes);
            if (minutes <= limit && better) {
                best = speeds;
                bestRisk = risk;
                bestMinutes = minutes;
            }
        }
        if (best == null) return STATE;
        return what == -1 ? bestRisk : what == -2 ? bestMinutes : best[what];
    }

    int sheet(int sheet, int sort, int n) {
        if (out(sheet, 0, 3) || out(sort, -1, 4) || n > 40) return BAD;
        try {
            Object row = null;
            if (sort == 0) row = new byte[n];
            if (sort == 1) row = new short[n];
            if (sort == 2) row = new int[n];
            if (sort == 3) row = new long[n];
            if (sort == 4) row = new boolean[n];
            sheets[sheet] = row;
            return 1;
        } catch (NegativeArraySizeException e) {
            return -14;
        }
    }

    int put(int sheet, int i, int v) {
        if (out(sheet, 0, 3)) return BAD;
        Object row = sheets[sheet];
        if (row == null) return -11;
        try {
            if (row instanceof byte[] r) r[i] = (byte) v;
            if (row instanceof short[] r) r[i] = (short) v;
            if (row instanceof int[] r) r[i] = v;
            if (row instanceof long[] r) r[i] = v;
            if (row instanceof boolean[] r) r[i] = v != 0;
            return 1;
        } catch (ArrayIndexOutOfBoundsException e) {
            return -12;
        }
    }

    int item(int sheet, int sort, int i) {
        if (out(sheet, 0, 3) || out(sort, 0, 4)) return BAD;
        Object row = sheets[sheet];
        try {
            if (sort == 0) return ((byte[]) row)[i];
            if (sort == 1) return ((short[]) row)[i];
            if (sort == 2) return ((int[]) row)[i];
            if (sort == 3) return (int) ((long[]) row)[i];
            return ((boolean[]) row)[i] ? 1 : 0;
        } catch (ClassCastException e) {
            return -13;
        } catch (NullPointerException e) {
            return -11;
        } catch (ArrayIndexOutOfBoundsException e) {
            return -12;
        }
    }

    int sound(int cell, int minute, int sheet, int i, int n) {
        if (out(cell, 0, 7) || out(sheet, 0, 3) || out(n, 0, 9) || out(minute, 0, 60)) return BAD;
        try {
            byte[] row = (byte[]) sheets[sheet];
            if (row == null) return -11;
            int came = 0;
            for (int j = 0; j < n; j++) {
                int tons = row[i + j];
                int number = sounding(cell, minute + j, tons, tons);
                if (number == FULL) return FULL;
                if (number >= 0) came++;
            }
            return came;
        } catch (ClassCastException e) {
            return -13;
        } catch (NullPointerException e) {
            return -11;
        } catch (ArrayIndexOutOfBoundsException e) {
            return -12;
        }
    }

    private int[] there() {
        return new int[] {8, k.boats.size(), k.calls.size(), k.lights.size(), k.words.size(), 4};
    }

    int shelf(int shelf, int what, int n) {
        if (out(shelf, 0, 3) || out(what, 0, 6) || (what < 6 && out(n, 0, there()[what] - 1))) return BAD;
        shelfWhat[shelf] = what;
        shelfN[shelf] = n;
        shelfRow[shelf] = what == 5 ? sheets[n] : null;
        return 1;
    }

    private Object on(int shelf) {
        int what = shelfWhat[shelf];
        int n = shelfN[shelf];
        if (what == 5) return shelfRow[shelf];
        if (what == 6 || n >= there()[what]) return null;
        if (what == 0) return new CellThing(n);
        if (what == 1) return k.boats.get(n).reading == 1 ? new LightBoat(n) : new BoatThing(n);
        if (what == 2) return new CallThing(n);
        return what == 3 ? new OrderThing(n) : new WordThing(n);
    }

    int taken(int shelf, int as) {
        if (out(shelf, 0, 3) || as < 0 || as > 14 || (as > 6 && as < 10)) return BAD;
        Object o = on(shelf);
        try {
            switch (as) {
                case 0: return ((Thing) o).n;
                case 1: return ((CellThing) o).n;
                case 2: return ((BoatThing) o).n;
                case 3: return ((LightBoat) o).n;
                case 4: return ((CallThing) o).n;
                case 5: return ((OrderThing) o).n;
                case 6: return ((WordThing) o).n;
                case 10: return ((byte[]) o).length;
                case 11: return ((short[]) o).length;
                case 12: return ((int[]) o).length;
                case 13: return ((long[]) o).length;
                default: return ((boolean[]) o).length;
            }
        } catch (ClassCastException e) {
            return -13;
        } catch (NullPointerException e) {
            return -11;
        }
    }

    int act(int shelf, int act, int x) {
        trace.clear();
        if (out(shelf, 0, 3) || out(act, 0, 3) || !(on(shelf) instanceof Thing t)) return 0;
        try {
            return act == 0 ? t.fills(x) : act == 1 ? t.carries(x) : act == 2 ? t.fits(x) : t.tells(x);
        } catch (ArithmeticException e) {
            return -15;
        }
    }

    int trace(int i) {
        return out(i, 0, trace.size() - 1) ? NONE : trace.get(i);
    }

    int many(int what) {
        if (out(what, 0, 15)) return BAD;
        return new int[] {k.now, k.soundings.size(), k.ways.size(), k.groups.size(), k.boats.size(), k.ships.size(), k.calls.size(), k.lights.size(),
            k.words.size(), k.versions.size(), k.legs.size(), rows.size(), tape.length(), trace.size(), Arrays.stream(k.water).sum(),
            Arrays.stream(k.persons()).sum()}[what];
    }

    int keep() {
        kept = k.copy();
        return 1;
    }

    int again() {
        if (kept == null) return NONE;
        k = kept.copy();
        return 1;
    }
}
