/**
 * Boats for half: a ship that met ice. The document ../shared/DOC.md tells what each call answers;
 * ../shared/LANGUAGE.md tells which Java this file keeps to.
 *
 * Every row is made with the object and used again, as all calls of a run share one room.
 */
public final class HalfBoats {
    public static final int BAD = -1, FULL = -2, NONE = -3, STATE = -4;

    private static final int NO_ROW = -9;
    private static final int NOTHING_THERE = -11;
    private static final int PLACE_OUTSIDE = -12;
    private static final int OTHER_SORT = -13;
    private static final int SIZE_BELOW_0 = -14;
    private static final int PARTED_BY_0 = -15;

    private static final int LAST_MINUTE = 999;

    private final Hull hull = new Hull();
    private final Soundings soundings = new Soundings();
    private final Crowd crowd = new Crowd();
    private final Sea sea = new Sea();
    private final Words words = new Words();
    private final Rules rules = new Rules();
    private final Passage passage = new Passage();

    private final Hull keptHull = new Hull();
    private final Soundings keptSoundings = new Soundings();
    private final Crowd keptCrowd = new Crowd();
    private final Sea keptSea = new Sea();
    private final Words keptWords = new Words();
    private final Rules keptRules = new Rules();
    private final Passage keptPassage = new Passage();
    private boolean isKept = false;

    private final Hull trial = new Hull();
    private final Seating seating = new Seating();
    private final Reader reader = new Reader();
    private final Host host = new Host();
    private final Acts acts = new Acts();

    public HalfBoats() {
    }

    // ---- the hull

    public int minutes(int n) {
        if (!within(n, 1, 200)) {
            return BAD;
        }
        if (hull.now + n > LAST_MINUTE) {
            return STATE;
        }
        for (int i = 0; i < n; i++) {
            hull.passMinute();
        }
        return hull.now;
    }

    public int set(int cell, int what, int v) {
        if (!within(cell, 0, Hull.CELLS - 1) || !Hull.mayBecome(what, v)) {
            return BAD;
        }
        soundings.forgetExplanation();
        return hull.change(cell, what, v);
    }

    public int wall(int wall, int height) {
        if (!within(wall, 0, Hull.WALLS - 1) || !within(height, 0, 100)) {
            return BAD;
        }
        int was = hull.height[wall];
        hull.height[wall] = height;
        soundings.forgetExplanation();
        return was;
    }

    public int door(int wall, boolean open) {
        if (!within(wall, 0, Hull.WALLS - 1)) {
            return BAD;
        }
        int was = hull.open[wall];
        hull.open[wall] = open ? 1 : 0;
        soundings.forgetExplanation();
        return was;
    }

    public int cell(int cell, int what) {
        if (!within(cell, 0, Hull.CELLS - 1) || !within(what, 0, 2)) {
            return BAD;
        }
        if (what == 0) {
            return hull.water[cell];
        }
        return what == 1 ? hull.levelOf(cell) : hull.outsideOf(cell);
    }

    public int sunk() {
        return hull.sunkAt;
    }

    public int sinks(int wall, int height) {
        if (!within(wall, -1, Hull.WALLS - 1) || !within(height, 0, 100)) {
            return BAD;
        }
        if (hull.sunkAt != NONE) {
            return STATE;
        }
        trial.copyFrom(hull);
        if (wall >= 0) {
            trial.height[wall] = height;
        }
        boolean moves = true;
        // WATER that stood still through a MINUTE stands still for good.
        for (int minute = hull.now; minute < LAST_MINUTE && moves && trial.sunkAt == NONE; minute++) {
            moves = trial.passMinute();
        }
        return trial.sunkAt;
    }

    public int sounding(int cell, int minute, int from, int to) {
        if (!within(cell, 0, Hull.CELLS - 1) || !within(minute, 0, Soundings.LAST)) {
            return BAD;
        }
        if (!within(from, 0, 999) || !within(to, from, 999)) {
            return BAD;
        }
        if (soundings.count >= Soundings.MOST_OF_THEM) {
            return FULL;
        }
        return soundings.add(cell, minute, from, to);
    }

    public int explained(int what) {
        if (!within(what, 0, 1)) {
            return BAD;
        }
        soundings.explain(hull, trial);
        return what == 0 ? soundings.holes : soundings.rate;
    }

    // ---- groups, boats

    public int way(int a, int b, int minutes, int till) {
        if (!Crowd.isPlace(a) || !Crowd.isPlace(b) || a == b) {
            return BAD;
        }
        if (!within(minutes, 1, 20) || !isMinute(till)) {
            return BAD;
        }
        return crowd.ways >= Crowd.MOST_WAYS ? FULL : crowd.addWay(a, b, minutes, till);
    }

    public int group(int n, int kind, int place, int told) {
        if (!within(n, 1, 50) || !within(kind, 0, 2) || !Crowd.isPlace(place) || !isMinute(told)) {
            return BAD;
        }
        return crowd.groups >= Crowd.MOST_GROUPS ? FULL : crowd.addGroup(n, kind, place, told);
    }

    public int reach(int group, int place) {
        if (!within(group, 0, crowd.groups - 1) || !Crowd.isPlace(place)) {
            return BAD;
        }
        crowd.spread(group);
        return crowd.arrival[place] == Crowd.NEVER ? NONE : crowd.arrival[place];
    }

    public int boat(int seats, int place, int lowered, int reading) {
        if (!within(seats, 1, 65) || !Crowd.isPlace(place) || !isMinute(lowered) || !within(reading, 0, 1)) {
            return BAD;
        }
        return crowd.boats >= Crowd.MOST_BOATS ? FULL : crowd.addBoat(seats, place, lowered, reading);
    }

    public int can(int group) {
        if (!within(group, 0, crowd.groups - 1)) {
            return BAD;
        }
        seating.load(crowd);
        return seating.boatsFor[group];
    }

    public int most() {
        seating.load(crowd);
        return seating.mostSeated();
    }

    public int seat() {
        seating.load(crowd);
        return seating.seatAll();
    }

    public int row(int i, int what) {
        if (!within(i, 0, seating.rows - 1) || !within(what, 0, 2)) {
            return NO_ROW;
        }
        return seating.row[i * 3 + what];
    }

    public int alterRow(int i, int what, int v) {
        if (!within(i, 0, seating.rows - 1) || !within(what, 0, 2)) {
            return NO_ROW;
        }
        int was = seating.row[i * 3 + what];
        seating.row[i * 3 + what] = v;
        return was;
    }

    public int judge() {
        seating.load(crowd);
        return seating.readRows();
    }

    public int order(int boats, int labour, int what) {
        if (!within(boats, 1, (1 << crowd.boats) - 1) || !within(labour, 1, 30) || what < -1) {
            return BAD;
        }
        int size = Integer.bitCount(boats);
        if (size > Seating.MOST_ORDERED) {
            return FULL;
        }
        if (what >= size) {
            return NONE;
        }
        seating.load(crowd);
        seating.findOrder(boats, hull.now, labour);
        return what == -1 ? seating.best : seating.bestOrder[what];
    }

    // ---- ships, calls, lights

    public int ship(int at, int speed, int ears, int range) {
        if (!within(at, 0, 9999) || !within(speed, 1, 40) || !within(ears, 0, 999999) || !within(range, 0, 200)) {
            return BAD;
        }
        if (ears % 1000 < ears / 1000) {
            return BAD;
        }
        return sea.ships >= Sea.MOST_SHIPS ? FULL : sea.addShip(at, speed, ears, range);
    }

    public int ready(int n) {
        if (!within(n, 0, 60)) {
            return BAD;
        }
        int was = sea.readyIn;
        sea.readyIn = n;
        return was;
    }

    public int call(int minute) {
        if (!isMinute(minute)) {
            return BAD;
        }
        return sea.calls >= Sea.MOST_CALLS ? FULL : sea.addCall(minute);
    }

    public int hears(int call) {
        return within(call, 0, sea.calls - 1) ? sea.hearersOf(call) : BAD;
    }

    public int comes(int ship) {
        return within(ship, 0, sea.ships - 1) ? sea.comesAt(ship) : BAD;
    }

    public int light(int minute, int from, int to) {
        if (!isMinute(minute) || !within(from, 0, 200) || !within(to, from, 200)) {
            return BAD;
        }
        return sea.lights >= Sea.MOST_LIGHTS ? FULL : sea.addLight(minute, from, to);
    }

    public int mayBe(int light) {
        return within(light, 0, sea.lights - 1) ? sea.shipsOf(light) : BAD;
    }

    public int sure(int light) {
        if (!within(light, 0, sea.lights - 1)) {
            return BAD;
        }
        int ships = sea.shipsOf(light);
        return Integer.bitCount(ships) == 1 ? lowestBit(ships) : NONE;
    }

    // ---- lists, words

    public int list(int office, int names) {
        if (!within(office, 0, 2) || !within(names, 0, (1 << 30) - 1)) {
            return BAD;
        }
        int was = words.lists[office];
        words.lists[office] = names;
        return was;
    }

    public int names(int what) {
        if (!within(what, 0, 1)) {
            return BAD;
        }
        return what == 0 ? words.onTwoLists() : words.onOneList();
    }

    public int sworn(int leans) {
        if (!within(leans, 0, (1 << words.count) - 1)) {
            return BAD;
        }
        return words.count >= Words.MOST_OF_THEM ? FULL : words.add(leans, hull.now);
    }

    public int takeBack(int word) {
        if (!within(word, 0, words.count - 1)) {
            return BAD;
        }
        if (words.back[word] != Words.NEVER) {
            return STATE;
        }
        words.back[word] = hull.now;
        return Integer.bitCount(words.standAt(hull.now));
    }

    public int standing(int k) {
        return isMinute(k) ? words.standAt(k) : BAD;
    }

    // ---- rules

    public int feed(long eight, int n) {
        if (!within(n, 1, 8)) {
            return BAD;
        }
        return reader.size + n > Reader.MOST_BYTES ? FULL : reader.take(eight, n);
    }

    public int read() {
        int fault = reader.readInto(rules);
        if (fault != Reader.NO_FAULT) {
            return -100 - fault;
        }
        return rules.count >= Rules.MOST_OF_THEM ? FULL : rules.admit(hull.now);
    }

    public int version(int v, int what) {
        if (!within(v, 0, rules.count - 1)) {
            return BAD;
        }
        if (what == 0) {
            return rules.lines[v];
        }
        if (what == 1) {
            return rules.from[v];
        }
        return within(what, 10, 9 + rules.lines[v]) ? rules.sort[v * Rules.LINES + what - 10] : BAD;
    }

    public int lack(int minute) {
        if (!isMinute(minute)) {
            return BAD;
        }
        int seats = rules.seatsDue(minute, hull.allRoom()) - crowd.allSeats();
        return Math.max(0, seats);
    }

    public int rank(int kind, int minute) {
        if (!within(kind, 0, 2) || !isMinute(minute)) {
            return BAD;
        }
        return rules.rankOf(kind, minute);
    }

    public int must(int ship, int minute) {
        if (!within(ship, 0, sea.ships - 1) || !isMinute(minute)) {
            return BAD;
        }
        return rules.bids(sea, ship, minute) ? 1 : 0;
    }

    // ---- a run

    public int leg(int miles, int ice) {
        if (!within(miles, 1, 99) || !within(ice, 0, 9)) {
            return BAD;
        }
        return passage.legs >= Passage.MOST_LEGS ? FULL : passage.add(miles, ice);
    }

    public int run(int limit, int what) {
        if (!within(limit, 0, 9999) || !within(what, -2, passage.legs - 1)) {
            return BAD;
        }
        if (!passage.find(limit)) {
            return STATE;
        }
        if (what == -1) {
            return passage.bestRisk;
        }
        return what == -2 ? passage.bestMinutes : passage.bestSpeed[what];
    }

    // ---- the host

    public int sheet(int sheet, int sort, int n) {
        if (!Host.isOne(sheet) || !within(sort, -1, 4) || n > Host.MOST_ITEMS) {
            return BAD;
        }
        // A missing SHEET has no size that could be below 0.
        if (sort >= 0 && n < 0) {
            return SIZE_BELOW_0;
        }
        host.lay(sheet, sort, n);
        return 1;
    }

    public int put(int sheet, int i, int v) {
        if (!Host.isOne(sheet)) {
            return BAD;
        }
        if (host.sort[sheet] == Host.MISSING) {
            return NOTHING_THERE;
        }
        if (!host.hasItem(sheet, i)) {
            return PLACE_OUTSIDE;
        }
        host.write(sheet, i, v);
        return 1;
    }

    public int item(int sheet, int sort, int i) {
        if (!Host.isOne(sheet) || !within(sort, 0, 4)) {
            return BAD;
        }
        int refusal = host.refuseRow(sheet, sort);
        if (refusal != 0) {
            return refusal;
        }
        return host.hasItem(sheet, i) ? host.itemAt(sheet, i) : PLACE_OUTSIDE;
    }

    public int sound(int cell, int minute, int sheet, int i, int n) {
        if (!within(cell, 0, Hull.CELLS - 1) || !Host.isOne(sheet) || !within(n, 0, 9)) {
            return BAD;
        }
        if (!within(minute, 0, Soundings.LAST)) {
            return BAD;
        }
        int refusal = host.refuseRow(sheet, 0);
        if (refusal != 0) {
            return refusal;
        }
        int came = 0;
        for (int k = 0; k < n; k++) {
            if (!host.hasItem(sheet, i + k)) {
                return PLACE_OUTSIDE;
            }
            int tons = host.itemAt(sheet, i + k);
            int number = sounding(cell, minute + k, tons, tons);
            if (number == FULL) {
                return FULL;
            }
            came += number >= 0 ? 1 : 0;
        }
        return came;
    }

    public int shelf(int shelf, int what, int n) {
        if (!Host.isOne(shelf) || !within(what, 0, Host.EMPTY)) {
            return BAD;
        }
        if (what != Host.EMPTY && !within(n, 0, howManyOf(what) - 1)) {
            return BAD;
        }
        host.place(shelf, what, n);
        return 1;
    }

    public int taken(int shelf, int as) {
        if (!Host.isOne(shelf) || !(within(as, 0, 6) || within(as, 10, 14))) {
            return BAD;
        }
        int kind = kindOn(shelf);
        if (kind == Acts.NO_KIND) {
            return NOTHING_THERE;
        }
        return Acts.isUnder(kind, as) ? host.heldNumber[shelf] : OTHER_SORT;
    }

    public int act(int shelf, int act, int x) {
        acts.clearTrace();
        if (!Host.isOne(shelf) || !within(act, 0, 3)) {
            return 0;
        }
        int kind = kindOn(shelf);
        if (kind == Acts.NO_KIND || kind >= Acts.ROW_KINDS) {
            return 0;
        }
        int n = host.heldNumber[shelf];
        acts.become(kind, n, amountOf(host.held[shelf], n));
        return answerOf(act, x);
    }

    public int trace(int i) {
        return within(i, 0, acts.traced - 1) ? acts.bodies[i] : NONE;
    }

    public int many(int what) {
        switch (what) {
            case 0: return hull.now;
            case 1: return soundings.count;
            case 2: return crowd.ways;
            case 3: return crowd.groups;
            case 4: return crowd.boats;
            case 5: return sea.ships;
            case 6: return sea.calls;
            case 7: return sea.lights;
            case 8: return words.count;
            case 9: return rules.count;
            case 10: return passage.legs;
            case 11: return seating.rows;
            case 12: return reader.size;
            case 13: return acts.traced;
            case 14: return hull.allWater;
            case 15: return crowd.allPersons();
            default: return BAD;
        }
    }

    // ---- kept

    public int keep() {
        keptHull.copyFrom(hull);
        keptSoundings.copyFrom(soundings);
        keptCrowd.copyFrom(crowd);
        keptSea.copyFrom(sea);
        keptWords.copyFrom(words);
        keptRules.copyFrom(rules);
        keptPassage.copyFrom(passage);
        isKept = true;
        return 1;
    }

    public int again() {
        if (!isKept) {
            return NONE;
        }
        hull.copyFrom(keptHull);
        soundings.copyFrom(keptSoundings);
        crowd.copyFrom(keptCrowd);
        sea.copyFrom(keptSea);
        words.copyFrom(keptWords);
        rules.copyFrom(keptRules);
        passage.copyFrom(keptPassage);
        return 1;
    }

    private static boolean within(int v, int least, int greatest) {
        return v >= least && v <= greatest;
    }

    private static boolean isMinute(int v) {
        return v >= 0 && v <= LAST_MINUTE;
    }

    private static int lowestBit(int bits) {
        int i = 0;
        while (i < 31 && (bits >> i & 1) == 0) {
            i++;
        }
        return i;
    }

    private static void copy(int[] from, int[] to) {
        System.arraycopy(from, 0, to, 0, Math.min(from.length, to.length));
    }

    private int howManyOf(int what) {
        switch (what) {
            case 0: return Hull.CELLS;
            case 1: return crowd.boats;
            case 2: return sea.calls;
            case 3: return sea.lights;
            case 4: return words.count;
            case 5: return Host.PLACES;
            default: return 0;
        }
    }

    /** What is on a SHELF: a kind of thing, ROW_KINDS and its sort for a row, NO_KIND for nothing. */
    private int kindOn(int shelf) {
        int what = host.held[shelf];
        if (what == Host.SHEET_ROW) {
            return Acts.ROW_KINDS + host.heldSort[shelf];
        }
        int n = host.heldNumber[shelf];
        // again() may have gone back to where this thing was not there.
        if (!within(n, 0, howManyOf(what) - 1)) {
            return Acts.NO_KIND;
        }
        switch (what) {
            case 0: return Acts.CELL;
            case 1: return crowd.reading[n] == 1 ? Acts.LIGHT_BOAT : Acts.BOAT;
            case 2: return Acts.CALL;
            case 3: return Acts.ORDER;
            case 4: return Acts.WORD;
            default: return Acts.NO_KIND;
        }
    }

    private int answerOf(int act, int x) {
        switch (act) {
            case 0: return acts.fills(x);
            case 1: return acts.carries(x);
            case 2:
                int fitted = acts.fits(x);
                return acts.parted ? PARTED_BY_0 : fitted;
            case 3: return acts.tells(x);
            default: return 0;
        }
    }

    private int amountOf(int what, int n) {
        switch (what) {
            case 0: return hull.room[n];
            case 1: return crowd.seats[n];
            case 2: return sea.callMinute[n];
            case 3: return sea.lightMinute[n];
            case 4: return words.leans[n];
            default: return 0;
        }
    }

    /** CELLS, WALLS, DOORS, and the water in them, minute by minute. */
    private static final class Hull {
        static final int CELLS = 8;
        static final int WALLS = 7;

        int now = 0;
        int sunkAt = NONE;
        final int[] room = new int[CELLS];
        final int[] water = new int[CELLS];
        final int[] hole = new int[CELLS];
        final int[] pump = new int[CELLS];
        final int[] height = new int[WALLS];
        final int[] open = new int[WALLS];
        /** All WATER, and the TILT by it: weighed anew whenever WATER has changed. */
        int allWater = 0;
        private int tilt = 0;
        private final int[] level = new int[CELLS];
        private final int[] gain = new int[CELLS];

        Hull() {
            for (int i = 0; i < CELLS; i++) {
                room[i] = 100;
            }
            for (int i = 0; i < WALLS; i++) {
                height[i] = 100;
            }
        }

        void copyFrom(Hull other) {
            now = other.now;
            sunkAt = other.sunkAt;
            copy(other.room, room);
            copy(other.water, water);
            copy(other.hole, hole);
            copy(other.pump, pump);
            copy(other.height, height);
            copy(other.open, open);
            weigh();
        }

        static boolean mayBecome(int what, int v) {
            if (what == 0) {
                return within(v, 10, 999);
            }
            return within(what, 1, 2) && within(v, 0, 9);
        }

        int change(int cell, int what, int v) {
            int[] of = what == 0 ? room : what == 1 ? hole : pump;
            int was = of[cell];
            of[cell] = v;
            water[cell] = Math.min(water[cell], room[cell]);
            weigh();
            return was;
        }

        /** All dry in MINUTE 0, with HOLES of one rate in some CELLS (bits). */
        void startDry(int cells, int rate) {
            now = 0;
            sunkAt = NONE;
            for (int i = 0; i < CELLS; i++) {
                water[i] = 0;
                hole[i] = (cells >> i & 1) == 1 ? rate : 0;
            }
            weigh();
        }

        int levelOf(int cell) {
            return room[cell] == 0 ? 0 : 100 * water[cell] / room[cell];
        }

        int outsideOf(int cell) {
            int outside = 40 + allWater / 20 + tilt * (7 - 2 * cell) / 7;
            return Math.max(0, Math.min(100, outside));
        }

        int allRoom() {
            int all = 0;
            for (int i = 0; i < CELLS; i++) {
                all += room[i];
            }
            return all;
        }

        /** Returns whether any WATER changed. */
        boolean passMinute() {
            now++;
            if (sunkAt != NONE) {
                return false;
            }
            findGains();
            boolean moved = takeGains();
            if (outsideOf(0) == 100 || outsideOf(CELLS - 1) == 100) {
                sunkAt = now;
            }
            return moved;
        }

        private void weigh() {
            int moment = 0;
            allWater = 0;
            for (int i = 0; i < CELLS; i++) {
                allWater += water[i];
                moment += water[i] * (7 - 2 * i);
            }
            tilt = moment / 100;
        }

        private void findGains() {
            for (int i = 0; i < CELLS; i++) {
                level[i] = levelOf(i);
                gain[i] = -pump[i];
                if (hole[i] > 0) {
                    gain[i] += Math.max(0, hole[i] * (outsideOf(i) - level[i]) / 10);
                }
            }
            for (int w = 0; w < WALLS; w++) {
                if (level[w] != level[w + 1]) {
                    passWall(w);
                }
            }
        }

        private void passWall(int w) {
            int sill = open[w] == 1 ? 0 : height[w];
            int over = Math.max(level[w], level[w + 1]) - Math.max(sill, Math.min(level[w], level[w + 1]));
            if (over <= 0) {
                return;
            }
            int tons = level[w] > level[w + 1] ? over / 4 : -(over / 4);
            gain[w] -= tons;
            gain[w + 1] += tons;
        }

        private boolean takeGains() {
            boolean moved = false;
            for (int i = 0; i < CELLS; i++) {
                if (gain[i] != 0) {
                    int next = Math.max(0, Math.min(room[i], water[i] + gain[i]));
                    moved = moved || next != water[i];
                    water[i] = next;
                }
            }
            if (moved) {
                weigh();
            }
            return moved;
        }
    }

    /** SOUNDINGS, and THE EXPLANATION of them. */
    private static final class Soundings {
        static final int MOST_OF_THEM = 16;
        static final int LAST = 60;

        int count = 0;
        int holes = 0;
        int rate = 1;
        private boolean known = false;
        private final int[] cell = new int[MOST_OF_THEM];
        private final int[] minute = new int[MOST_OF_THEM];
        private final int[] from = new int[MOST_OF_THEM];
        private final int[] to = new int[MOST_OF_THEM];

        void copyFrom(Soundings other) {
            count = other.count;
            known = false;
            copy(other.cell, cell);
            copy(other.minute, minute);
            copy(other.from, from);
            copy(other.to, to);
        }

        void forgetExplanation() {
            known = false;
        }

        /** They stand by MINUTES, as holds() meets them; nothing asks for them by number. */
        int add(int inCell, int inMinute, int least, int greatest) {
            int at = count;
            while (at > 0 && minute[at - 1] > inMinute) {
                cell[at] = cell[at - 1];
                minute[at] = minute[at - 1];
                from[at] = from[at - 1];
                to[at] = to[at - 1];
                at--;
            }
            cell[at] = inCell;
            minute[at] = inMinute;
            from[at] = least;
            to[at] = greatest;
            known = false;
            return count++;
        }

        /** Leaves THE EXPLANATION in holes and rate, NONE in both if there is none. */
        void explain(Hull hull, Hull trial) {
            if (known) {
                return;
            }
            known = true;
            trial.copyFrom(hull);
            for (int few = 0; few <= Hull.CELLS; few++) {
                for (int r = 1; r <= 9; r++) {
                    for (int bits = 0; bits < 1 << Hull.CELLS; bits++) {
                        if (Integer.bitCount(bits) == few && holds(trial, bits, r)) {
                            holes = bits;
                            rate = r;
                            return;
                        }
                    }
                }
            }
            holes = NONE;
            rate = NONE;
        }

        private boolean holds(Hull trial, int bits, int r) {
            trial.startDry(bits, r);
            boolean moves = true;
            int next = 0;
            for (int m = 0; m <= LAST && next < count; m++) {
                if (m > 0 && moves) {
                    moves = trial.passMinute();
                }
                for (; next < count && minute[next] == m; next++) {
                    if (!within(trial.water[cell[next]], from[next], to[next])) {
                        return false;
                    }
                }
            }
            return true;
        }
    }

    /** WAYS, GROUPS and BOATS. */
    private static final class Crowd {
        static final int PLACES = 8;
        static final int MOST_WAYS = 12;
        static final int MOST_GROUPS = 10;
        static final int MOST_BOATS = 8;
        static final int NEVER = 1000000;

        int ways = 0;
        private final int[] wayA = new int[MOST_WAYS];
        private final int[] wayB = new int[MOST_WAYS];
        private final int[] wayMinutes = new int[MOST_WAYS];
        private final int[] wayTill = new int[MOST_WAYS];
        int groups = 0;
        final int[] persons = new int[MOST_GROUPS];
        final int[] kind = new int[MOST_GROUPS];
        private final int[] groupPlace = new int[MOST_GROUPS];
        private final int[] told = new int[MOST_GROUPS];
        int boats = 0;
        final int[] seats = new int[MOST_BOATS];
        final int[] boatPlace = new int[MOST_BOATS];
        final int[] lowered = new int[MOST_BOATS];
        final int[] reading = new int[MOST_BOATS];
        final int[] arrival = new int[PLACES];

        static boolean isPlace(int v) {
            return v >= 0 && v < PLACES;
        }

        void copyFrom(Crowd other) {
            ways = other.ways;
            copy(other.wayA, wayA);
            copy(other.wayB, wayB);
            copy(other.wayMinutes, wayMinutes);
            copy(other.wayTill, wayTill);
            groups = other.groups;
            copy(other.persons, persons);
            copy(other.kind, kind);
            copy(other.groupPlace, groupPlace);
            copy(other.told, told);
            boats = other.boats;
            copy(other.seats, seats);
            copy(other.boatPlace, boatPlace);
            copy(other.lowered, lowered);
            copy(other.reading, reading);
        }

        int addWay(int a, int b, int minutes, int till) {
            wayA[ways] = a;
            wayB[ways] = b;
            wayMinutes[ways] = minutes;
            wayTill[ways] = till;
            return ways++;
        }

        int addGroup(int n, int ofKind, int place, int inMinute) {
            persons[groups] = n;
            kind[groups] = ofKind;
            groupPlace[groups] = place;
            told[groups] = inMinute;
            return groups++;
        }

        int addBoat(int n, int place, int inMinute, int by) {
            seats[boats] = n;
            boatPlace[boats] = place;
            lowered[boats] = inMinute;
            reading[boats] = by;
            return boats++;
        }

        int allSeats() {
            int all = 0;
            for (int b = 0; b < boats; b++) {
                all += seats[b];
            }
            return all;
        }

        int allPersons() {
            int all = 0;
            for (int g = 0; g < groups; g++) {
                all += persons[g];
            }
            return all;
        }

        /** Leaves in arrival the MINUTE in which a GROUP is first at each PLACE. */
        void spread(int group) {
            for (int p = 0; p < PLACES; p++) {
                arrival[p] = NEVER;
            }
            arrival[groupPlace[group]] = told[group];
            boolean nearer = true;
            // No earliest walk goes over more WAYS than there are other PLACES.
            for (int round = 0; round < PLACES && nearer; round++) {
                nearer = false;
                for (int w = 0; w < ways; w++) {
                    boolean there = walk(w, wayA[w], wayB[w]);
                    boolean back = walk(w, wayB[w], wayA[w]);
                    nearer = nearer || there || back;
                }
            }
        }

        private boolean walk(int w, int a, int b) {
            if (arrival[a] == NEVER) {
                return false;
            }
            int then = Math.max(arrival[a], wayTill[w]) + wayMinutes[w];
            if (then >= arrival[b]) {
                return false;
            }
            arrival[b] = then;
            return true;
        }
    }

    /** MOST, THE SEATING, its ROWS and THE READER, and THE ORDER. */
    private static final class Seating {
        static final int MOST_ORDERED = 6;

        int rows = 0;
        final int[] row = new int[3 * Crowd.MOST_GROUPS * Crowd.MOST_BOATS];
        final int[] boatsFor = new int[Crowd.MOST_GROUPS];
        int best = 0;
        final int[] bestOrder = new int[MOST_ORDERED];
        private int groups = 0;
        private int boats = 0;
        private final int[] persons = new int[Crowd.MOST_GROUPS];
        private final int[] seats = new int[Crowd.MOST_BOATS];
        private final int[] lowered = new int[Crowd.MOST_BOATS];
        /** For each GROUP and BOAT the MINUTE from which on it CAN it. */
        private final int[] earliest = new int[Crowd.MOST_GROUPS * Crowd.MOST_BOATS];
        private final int[] seatSum = new int[1 << Crowd.MOST_BOATS];
        private final int[] cut = new int[1 << Crowd.MOST_BOATS];
        private final int[] picked = new int[MOST_ORDERED];
        private int ordered = 0;
        private int start = 0;
        private int labour = 0;

        void load(Crowd crowd) {
            groups = crowd.groups;
            boats = crowd.boats;
            copy(crowd.persons, persons);
            copy(crowd.seats, seats);
            copy(crowd.lowered, lowered);
            for (int g = 0; g < groups; g++) {
                crowd.spread(g);
                for (int b = 0; b < boats; b++) {
                    boolean lets = crowd.reading[b] == 1 || crowd.kind[g] != 2;
                    earliest[g * Crowd.MOST_BOATS + b] = lets ? crowd.arrival[crowd.boatPlace[b]] : Crowd.NEVER;
                }
            }
            for (int b = 0; b < boats; b++) {
                for (int x = 0; x < 1 << b; x++) {
                    seatSum[x | 1 << b] = seatSum[x] + seats[b];
                }
            }
            findBoats();
        }

        private void findBoats() {
            for (int g = 0; g < groups; g++) {
                int bits = 0;
                for (int b = 0; b < boats; b++) {
                    if (earliest[g * Crowd.MOST_BOATS + b] <= lowered[b]) {
                        bits |= 1 << b;
                    }
                }
                boatsFor[g] = bits;
            }
        }

        /**
         * As many as by the least cut: for some BOATS their SEATS, and the persons of all GROUPS that CAN
         * another BOAT, too.
         */
        int mostSeated() {
            int least = seatSum[(1 << boats) - 1];
            for (int x = 0; x < 1 << boats; x++) {
                int sum = seatSum[x];
                for (int g = 0; g < groups; g++) {
                    if ((boatsFor[g] & ~x) != 0) {
                        sum += persons[g];
                    }
                }
                cut[x] = sum;
                least = Math.min(least, sum);
            }
            return least;
        }

        int seatAll() {
            int left = mostSeated();
            rows = 0;
            for (int g = 0; g < groups; g++) {
                for (int b = 0; b < boats; b++) {
                    if ((boatsFor[g] >> b & 1) == 1) {
                        int n = mostOfPair(g, b, left);
                        left -= n;
                        takePair(g, b, n);
                    }
                }
            }
            return rows;
        }

        /**
         * n of a GROUP in a BOAT lower by n what others can have, and by n more each cut that holds both of
         * them: so its slack is how many there can be with MOST.
         */
        private int mostOfPair(int g, int b, int left) {
            int n = Math.min(persons[g], seats[b]);
            for (int x = 0; x < 1 << boats; x++) {
                if ((x >> b & 1) == 1 && (boatsFor[g] & ~x) != 0) {
                    n = Math.min(n, cut[x] - left);
                }
            }
            return n;
        }

        private void takePair(int g, int b, int n) {
            if (n <= 0) {
                return;
            }
            persons[g] -= n;
            seats[b] -= n;
            for (int x = 0; x < 1 << boats; x++) {
                cut[x] -= (x >> b & 1) == 1 ? n : 0;
                cut[x] -= (boatsFor[g] & ~x) != 0 ? n : 0;
            }
            row[rows * 3] = g;
            row[rows * 3 + 1] = b;
            row[rows * 3 + 2] = n;
            rows++;
        }

        int readRows() {
            int all = 0;
            for (int i = 0; i < rows; i++) {
                if (!isRight(i)) {
                    return -100 - i;
                }
                int n = row[i * 3 + 2];
                persons[row[i * 3]] -= n;
                seats[row[i * 3 + 1]] -= n;
                all += n;
            }
            return all;
        }

        private boolean isRight(int i) {
            int g = row[i * 3];
            int b = row[i * 3 + 1];
            int n = row[i * 3 + 2];
            if (!within(g, 0, groups - 1) || !within(b, 0, boats - 1)) {
                return false;
            }
            if (i > 0) {
                int ahead = row[i * 3 - 3];
                if (g < ahead || (g == ahead && b <= row[i * 3 - 2])) {
                    return false;
                }
            }
            return (boatsFor[g] >> b & 1) == 1 && n >= 1 && n <= persons[g] && n <= seats[b];
        }

        /** Leaves THE ORDER in best and bestOrder. */
        void findOrder(int bits, int now, int each) {
            ordered = Integer.bitCount(bits);
            start = now;
            labour = each;
            best = -1;
            for (int b = 0; b < boats; b++) {
                if ((bits >> b & 1) == 1) {
                    lowered[b] = now + ordered * each;
                }
            }
            pickNext(0, bits);
        }

        /**
         * All that are not picked stand as if LOWERED last: so what is found ahead of the next pick is no
         * less than what any order from here on gives, and is what the order gives if one alone is left.
         */
        private void pickNext(int depth, int left) {
            findBoats();
            int bound = mostSeated();
            if (bound <= best || depth >= ordered) {
                return;
            }
            if (depth == ordered - 1) {
                picked[depth] = lowestBit(left);
                best = bound;
                copy(picked, bestOrder);
                return;
            }
            for (int b = 0; b < boats && best < bound; b++) {
                if ((left >> b & 1) == 1) {
                    picked[depth] = b;
                    lowered[b] = start + (depth + 1) * labour;
                    pickNext(depth + 1, left & ~(1 << b));
                    lowered[b] = start + ordered * labour;
                }
            }
        }
    }

    /** SHIPS, CALLS and LIGHTS. */
    private static final class Sea {
        static final int MOST_SHIPS = 6;
        static final int MOST_CALLS = 10;
        static final int MOST_LIGHTS = 8;

        int readyIn = 10;
        int ships = 0;
        final int[] far = new int[MOST_SHIPS];
        final int[] speed = new int[MOST_SHIPS];
        private final int[] earsFrom = new int[MOST_SHIPS];
        private final int[] earsTo = new int[MOST_SHIPS];
        private final int[] range = new int[MOST_SHIPS];
        int calls = 0;
        final int[] callMinute = new int[MOST_CALLS];
        int lights = 0;
        final int[] lightMinute = new int[MOST_LIGHTS];
        private final int[] lightFrom = new int[MOST_LIGHTS];
        private final int[] lightTo = new int[MOST_LIGHTS];

        void copyFrom(Sea other) {
            readyIn = other.readyIn;
            ships = other.ships;
            copy(other.far, far);
            copy(other.speed, speed);
            copy(other.earsFrom, earsFrom);
            copy(other.earsTo, earsTo);
            copy(other.range, range);
            calls = other.calls;
            copy(other.callMinute, callMinute);
            lights = other.lights;
            copy(other.lightMinute, lightMinute);
            copy(other.lightFrom, lightFrom);
            copy(other.lightTo, lightTo);
        }

        int addShip(int at, int knots, int ears, int hearsTo) {
            far[ships] = Math.abs(at / 100 - 50) + Math.abs(at % 100 - 50);
            speed[ships] = knots;
            earsFrom[ships] = ears / 1000;
            earsTo[ships] = ears % 1000;
            range[ships] = hearsTo;
            return ships++;
        }

        int addCall(int minute) {
            callMinute[calls] = minute;
            return calls++;
        }

        int addLight(int minute, int from, int to) {
            lightMinute[lights] = minute;
            lightFrom[lights] = from;
            lightTo[lights] = to;
            return lights++;
        }

        int hearersOf(int c) {
            int bits = 0;
            for (int s = 0; s < ships; s++) {
                bits |= isHeard(s, c) ? 1 << s : 0;
            }
            return bits;
        }

        private boolean isHeard(int s, int c) {
            return within(callMinute[c], earsFrom[s], earsTo[s]) && far[s] <= range[s];
        }

        /** The MINUTE of the earliest CALL that a SHIP HEARS, or NONE. */
        int firstHeard(int s) {
            int first = NONE;
            for (int c = 0; c < calls; c++) {
                if (isHeard(s, c) && (first == NONE || callMinute[c] < first)) {
                    first = callMinute[c];
                }
            }
            return first;
        }

        int comesAt(int s) {
            int first = firstHeard(s);
            if (first == NONE || speed[s] <= 0) {
                return NONE;
            }
            return first + readyIn + (10 * far[s] + speed[s] - 1) / speed[s];
        }

        int shipsOf(int light) {
            int bits = 0;
            for (int s = 0; s < ships; s++) {
                int then = farAt(s, lightMinute[light]);
                bits |= within(then, lightFrom[light], lightTo[light]) ? 1 << s : 0;
            }
            return bits;
        }

        private int farAt(int s, int minute) {
            int first = firstHeard(s);
            if (first == NONE || minute <= first + readyIn) {
                return far[s];
            }
            return Math.max(0, far[s] - speed[s] * (minute - first - readyIn) / 10);
        }
    }

    /** LISTS of names, and SWORN words. */
    private static final class Words {
        static final int MOST_OF_THEM = 12;
        static final int NEVER = -1;

        final int[] lists = new int[3];
        int count = 0;
        final int[] leans = new int[MOST_OF_THEM];
        final int[] back = new int[MOST_OF_THEM];
        private final int[] known = new int[MOST_OF_THEM];

        void copyFrom(Words other) {
            copy(other.lists, lists);
            count = other.count;
            copy(other.leans, leans);
            copy(other.back, back);
            copy(other.known, known);
        }

        int onTwoLists() {
            return lists[0] & lists[1] | lists[0] & lists[2] | lists[1] & lists[2];
        }

        int onOneList() {
            return (lists[0] | lists[1] | lists[2]) & ~onTwoLists();
        }

        int add(int leansOn, int minute) {
            leans[count] = leansOn;
            known[count] = minute;
            back[count] = NEVER;
            return count++;
        }

        /** Words lean on words ahead of them alone, so one pass finds all that STAND. */
        int standAt(int k) {
            int bits = 0;
            for (int w = 0; w < count; w++) {
                boolean isBack = back[w] != NEVER && back[w] <= k;
                if (known[w] <= k && !isBack && (leans[w] & ~bits) == 0) {
                    bits |= 1 << w;
                }
            }
            return bits;
        }
    }

    /** VERSIONS of THE RULES; the slot behind the last one is where a TEXT is written while it is read. */
    private static final class Rules {
        static final int MOST_OF_THEM = 6;
        static final int LINES = 8;
        static final int SEATS = 0;
        static final int FIRST = 1;
        static final int COME = 2;
        static final int HEARD = 0;
        static final int FAR = 1;
        static final int SPEED = 2;
        static final int MINUTE = 3;
        static final int AND = 4;
        static final int OR = 5;
        static final int NOT = 6;
        static final int NO_RANK = 9;
        static final int NO_RANKS = 999;
        /** No 200 bytes give more than 50 steps: 5 bytes at least for each test, 3 for each join, 4 for a not. */
        private static final int STEPS = 64;
        private static final int SLOTS = MOST_OF_THEM + 1;

        int count = 0;
        final int[] from = new int[SLOTS];
        final int[] lines = new int[SLOTS];
        final int[] sort = new int[SLOTS * LINES];
        /**
         * Of a LINE: seats: a, b; first: the RANKS of KINDS 0 to 2 (ones, tens, hundreds), 0; come: its first
         * step, the one behind its last.
         */
        private final int[] one = new int[SLOTS * LINES];
        private final int[] two = new int[SLOTS * LINES];
        /** Conditions as steps behind what they join: sort, 8 times the sign, 32 times the number. */
        private final int[] step = new int[SLOTS * STEPS];
        private final int[] steps = new int[SLOTS];

        void copyFrom(Rules other) {
            count = other.count;
            copy(other.from, from);
            copy(other.lines, lines);
            copy(other.sort, sort);
            copy(other.one, one);
            copy(other.two, two);
            copy(other.step, step);
            copy(other.steps, steps);
        }

        void openSlot() {
            lines[count] = 0;
            steps[count] = 0;
        }

        int stepsSoFar() {
            return steps[count];
        }

        void addStep(int what) {
            if (steps[count] < STEPS) {
                step[count * STEPS + steps[count]] = what;
                steps[count]++;
            }
        }

        void addLine(int ofSort, int a, int b) {
            if (lines[count] < LINES) {
                int at = count * LINES + lines[count];
                sort[at] = ofSort;
                one[at] = a;
                two[at] = b;
                lines[count]++;
            }
        }

        int admit(int minute) {
            from[count] = minute;
            return count++;
        }

        int seatsDue(int minute, int allRoom) {
            int at = latestLine(SEATS, minute);
            if (at < 0 || two[at] <= 0) {
                return 0;
            }
            return one[at] * (allRoom / two[at]);
        }

        int rankOf(int kind, int minute) {
            int at = latestLine(FIRST, minute);
            if (at < 0) {
                return NO_RANK;
            }
            int ranks = one[at];
            for (int k = 0; k < kind; k++) {
                ranks /= 10;
            }
            return ranks % 10;
        }

        boolean bids(Sea sea, int ship, int minute) {
            int v = versionAt(minute);
            if (v < 0) {
                return false;
            }
            for (int i = 0; i < lines[v]; i++) {
                if (sort[v * LINES + i] == COME && holds(v, i, sea, ship, minute)) {
                    return true;
                }
            }
            return false;
        }

        private int versionAt(int minute) {
            for (int v = count - 1; v >= 0; v--) {
                if (from[v] <= minute) {
                    return v;
                }
            }
            return -1;
        }

        private int latestLine(int ofSort, int minute) {
            int v = versionAt(minute);
            if (v < 0) {
                return -1;
            }
            for (int i = lines[v] - 1; i >= 0; i--) {
                if (sort[v * LINES + i] == ofSort) {
                    return v * LINES + i;
                }
            }
            return -1;
        }

        /** The answers not yet joined stand as bits, the latest lowest: 4 open "(" leave no more than 15. */
        private boolean holds(int v, int line, Sea sea, int ship, int minute) {
            int bits = 0;
            int end = two[v * LINES + line];
            for (int i = one[v * LINES + line]; i < end; i++) {
                int s = step[v * STEPS + i];
                int what = s % 8;
                if (what == AND) {
                    bits = bits >> 2 << 1 | bits & bits >> 1 & 1;
                } else if (what == OR) {
                    bits = bits >> 2 << 1 | (bits | bits >> 1) & 1;
                } else if (what == NOT) {
                    bits ^= 1;
                } else {
                    bits = bits << 1 | (tests(s, sea, ship, minute) ? 1 : 0);
                }
            }
            return (bits & 1) == 1;
        }

        private static boolean tests(int s, Sea sea, int ship, int minute) {
            int what = s % 8;
            if (what == HEARD) {
                int first = sea.firstHeard(ship);
                return first != NONE && first <= minute;
            }
            int value = what == FAR ? sea.far[ship] : what == SPEED ? sea.speed[ship] : minute;
            int sign = s / 8 % 4;
            int n = s / 32;
            if (sign == 0) {
                return value < n;
            }
            return sign == 1 ? value == n : value > n;
        }
    }

    /** THE TAPE, and what reads a TEXT from it: first its tokens (WORDS, NUMBERS, other bytes), then its LINES. */
    private static final class Reader {
        static final int MOST_BYTES = 200;
        static final int NO_FAULT = -1;
        private static final int MOST_OPEN = 4;
        private static final int NO_NUMBER = -1;
        /** Tokens: a byte that is no letter and no digit is its own number, 255 at most; these are above. */
        private static final int END = 300, NUMBER = 301, OTHER_WORD = 302;
        private static final int SEATS = 310, FOR = 311, FIRST = 312, THEN = 313, COME = 314, IF = 315;
        private static final int OR = 320, AND = 321, NOT = 322, HEARD = 323, FAR = 324, SPEED = 325, MINUTE = 326;
        private static final int CHILDREN = 330, WOMEN = 331, MEN = 332;

        int size = 0;
        private final int[] tape = new int[MOST_BYTES];
        private final int[] token = new int[MOST_BYTES + 1];
        private final int[] begin = new int[MOST_BYTES + 1];
        private final int[] value = new int[MOST_BYTES + 1];
        private int tokens = 0;
        /** The token that is looked at: the last one is END, and nothing goes on behind it. */
        private int at = 0;
        private int fault = NO_FAULT;

        int take(long eight, int n) {
            for (int i = 0; i < n && size < MOST_BYTES; i++) {
                tape[size] = (int) (eight >> 8 * i & 255);
                size++;
            }
            return size;
        }

        /** Writes the TEXT to the open slot of the rules, uses THE TAPE up, and returns the FAULT. */
        int readInto(Rules rules) {
            scan();
            size = 0;
            at = 0;
            fault = NO_FAULT;
            rules.openSlot();
            for (int i = 0; i <= Rules.LINES && token[at] != END && fault == NO_FAULT; i++) {
                int first = i < Rules.LINES ? token[at] : OTHER_WORD;
                if (first == SEATS) {
                    readSeats(rules);
                } else if (first == FIRST) {
                    readFirst(rules);
                } else if (first == COME) {
                    readCome(rules);
                } else {
                    failHere();
                }
            }
            return fault;
        }

        private void scan() {
            tokens = 0;
            int i = 0;
            while (i < size) {
                int end = i + 1;
                if (isLetter(tape[i])) {
                    while (end < size && isLetter(tape[end])) {
                        end++;
                    }
                    addToken(wordAt(i, end), i, 0);
                } else if (isDigit(tape[i])) {
                    while (end < size && isDigit(tape[end])) {
                        end++;
                    }
                    addToken(NUMBER, i, numberAt(i, end));
                } else if (tape[i] != ' ') {
                    addToken(tape[i], i, 0);
                }
                i = end;
            }
            addToken(END, size, 0);
        }

        private void addToken(int what, int place, int number) {
            if (tokens <= MOST_BYTES) {
                token[tokens] = what;
                begin[tokens] = place;
                value[tokens] = number;
                tokens++;
            }
        }

        private static boolean isLetter(int c) {
            return c >= 'a' && c <= 'z';
        }

        private static boolean isDigit(int c) {
            return c >= '0' && c <= '9';
        }

        private int numberAt(int from, int to) {
            if (to - from > 3) {
                return NO_NUMBER;
            }
            int number = 0;
            for (int i = from; i < to; i++) {
                number = number * 10 + tape[i] - '0';
            }
            return number;
        }

        private int wordAt(int from, int to) {
            switch (to - from) {
                case 2: return is("if", from) ? IF : is("or", from) ? OR : OTHER_WORD;
                case 3:
                    if (is("for", from)) {
                        return FOR;
                    }
                    if (is("men", from)) {
                        return MEN;
                    }
                    return is("and", from) ? AND : is("not", from) ? NOT : is("far", from) ? FAR : OTHER_WORD;
                case 4: return is("come", from) ? COME : is("then", from) ? THEN : OTHER_WORD;
                case 5:
                    if (is("seats", from)) {
                        return SEATS;
                    }
                    if (is("first", from)) {
                        return FIRST;
                    }
                    if (is("women", from)) {
                        return WOMEN;
                    }
                    return is("heard", from) ? HEARD : is("speed", from) ? SPEED : OTHER_WORD;
                case 6: return is("minute", from) ? MINUTE : OTHER_WORD;
                case 8: return is("children", from) ? CHILDREN : OTHER_WORD;
                default: return OTHER_WORD;
            }
        }

        private boolean is(String word, int from) {
            for (int i = 0; i < word.length(); i++) {
                if (from + i >= size || tape[from + i] != word.charAt(i)) {
                    return false;
                }
            }
            return true;
        }

        private boolean failHere() {
            fault = begin[at];
            return false;
        }

        private boolean takeToken(int what) {
            if (token[at] != what || what == END) {
                fault = begin[at];
                return false;
            }
            at++;
            return true;
        }

        /** A NUMBER of least or more, or NO_NUMBER behind a FAULT. */
        private int takeNumber(int least) {
            if (token[at] != NUMBER || value[at] < least) {
                fault = begin[at];
                return NO_NUMBER;
            }
            at++;
            return value[at - 1];
        }

        private void readSeats(Rules rules) {
            at++;
            int a = takeNumber(0);
            if (a == NO_NUMBER || !takeToken(FOR)) {
                return;
            }
            int b = takeNumber(1);
            if (b != NO_NUMBER && takeToken(';')) {
                rules.addLine(Rules.SEATS, a, b);
            }
        }

        private void readFirst(Rules rules) {
            at++;
            int had = 0;
            int ranks = Rules.NO_RANKS;
            // One round more than there are KINDS: a fourth one was had in any case.
            for (int place = 0; place <= 3; place++) {
                int kind = token[at] - CHILDREN;
                if (!within(kind, 0, 2) || (had >> kind & 1) == 1) {
                    failHere();
                    return;
                }
                at++;
                had |= 1 << kind;
                int digit = kind == 0 ? 1 : kind == 1 ? 10 : 100;
                ranks -= (Rules.NO_RANK - place) * digit;
                if (token[at] != THEN) {
                    break;
                }
                at++;
            }
            if (takeToken(';')) {
                rules.addLine(Rules.FIRST, ranks, 0);
            }
        }

        private void readCome(Rules rules) {
            at++;
            int first = rules.stepsSoFar();
            if (takeToken(IF) && readCondition(rules, 0) && takeToken(';')) {
                rules.addLine(Rules.COME, first, rules.stepsSoFar());
            }
        }

        private boolean readCondition(Rules rules, int open) {
            if (!readAll(rules, open)) {
                return false;
            }
            for (int i = 0; i < MOST_BYTES && token[at] == OR; i++) {
                at++;
                if (!readAll(rules, open)) {
                    return false;
                }
                rules.addStep(Rules.OR);
            }
            return true;
        }

        private boolean readAll(Rules rules, int open) {
            if (!readOne(rules, open)) {
                return false;
            }
            for (int i = 0; i < MOST_BYTES && token[at] == AND; i++) {
                at++;
                if (!readOne(rules, open)) {
                    return false;
                }
                rules.addStep(Rules.AND);
            }
            return true;
        }

        private boolean readOne(Rules rules, int open) {
            boolean not = false;
            for (int i = 0; i < MOST_BYTES && token[at] == NOT; i++) {
                not = !not;
                at++;
            }
            boolean fine = token[at] == '(' ? readInside(rules, open) : readTest(rules);
            if (fine && not) {
                rules.addStep(Rules.NOT);
            }
            return fine;
        }

        private boolean readInside(Rules rules, int open) {
            if (open >= MOST_OPEN) {
                return failHere();
            }
            at++;
            return readCondition(rules, open + 1) && takeToken(')');
        }

        private boolean readTest(Rules rules) {
            int what = Rules.HEARD + token[at] - HEARD;
            if (!within(what, Rules.HEARD, Rules.MINUTE)) {
                return failHere();
            }
            at++;
            if (what == Rules.HEARD) {
                rules.addStep(what);
                return true;
            }
            int sign = token[at] - '<';
            if (!within(sign, 0, 2)) {
                return failHere();
            }
            at++;
            int n = takeNumber(0);
            if (n == NO_NUMBER) {
                return false;
            }
            rules.addStep(what + 8 * sign + 32 * n);
            return true;
        }
    }

    /** LEGS, and THE RUN over them. */
    private static final class Passage {
        static final int MOST_LEGS = 7;

        int legs = 0;
        int bestRisk = 0;
        int bestMinutes = 0;
        final int[] bestSpeed = new int[MOST_LEGS];
        private final int[] miles = new int[MOST_LEGS];
        private final int[] ice = new int[MOST_LEGS];
        private final int[] speed = new int[MOST_LEGS];
        /** Of each LEG and all behind it: the fewest MINUTES, the least RISK. */
        private final int[] fewest = new int[MOST_LEGS + 1];
        private final int[] least = new int[MOST_LEGS + 1];
        private boolean found = false;
        private int limit = 0;

        void copyFrom(Passage other) {
            legs = other.legs;
            copy(other.miles, miles);
            copy(other.ice, ice);
        }

        int add(int far, int thick) {
            miles[legs] = far;
            ice[legs] = thick;
            legs++;
            return legs;
        }

        /** Leaves THE RUN in bestRisk, bestMinutes and bestSpeed; returns whether there is one. */
        boolean find(int mostMinutes) {
            found = false;
            limit = mostMinutes;
            fewest[legs] = 0;
            least[legs] = 0;
            for (int i = legs - 1; i >= 0; i--) {
                fewest[i] = fewest[i + 1] + minutesOf(i, 4);
                least[i] = least[i + 1] + riskOf(i, 1);
            }
            sail(0, 0, 0);
            return found;
        }

        private int minutesOf(int leg, int knots) {
            return knots <= 0 ? 0 : (12 * miles[leg] + knots - 1) / knots;
        }

        private int riskOf(int leg, int knots) {
            return ice[leg] * miles[leg] * knots * knots;
        }

        /** Speeds are tried from the least on, so that of equal runs the first found stays. */
        private void sail(int leg, int minutes, int risk) {
            int atLeast = risk + least[leg];
            int soonest = minutes + fewest[leg];
            if (soonest > limit) {
                return;
            }
            if (found && (atLeast > bestRisk || (atLeast == bestRisk && soonest >= bestMinutes))) {
                return;
            }
            if (leg >= legs) {
                found = true;
                bestRisk = risk;
                bestMinutes = minutes;
                copy(speed, bestSpeed);
                return;
            }
            for (int knots = 1; knots <= 4; knots++) {
                speed[leg] = knots;
                sail(leg + 1, minutes + minutesOf(leg, knots), risk + riskOf(leg, knots));
            }
        }
    }

    /** SHEETS and SHELVES. */
    private static final class Host {
        static final int PLACES = 4;
        static final int MOST_ITEMS = 40;
        static final int MISSING = -1;
        static final int SHEET_ROW = 5;
        static final int EMPTY = 6;

        final int[] sort = new int[PLACES];
        final int[] held = new int[PLACES];
        /** Of a thing its number; of a row how many items: the row stays as it was if its SHEET becomes another. */
        final int[] heldNumber = new int[PLACES];
        final int[] heldSort = new int[PLACES];
        private final int[] size = new int[PLACES];
        private final long[] items = new long[PLACES * MOST_ITEMS];

        Host() {
            for (int i = 0; i < PLACES; i++) {
                sort[i] = MISSING;
                held[i] = EMPTY;
            }
        }

        static boolean isOne(int v) {
            return v >= 0 && v < PLACES;
        }

        void lay(int sheet, int ofSort, int n) {
            sort[sheet] = ofSort;
            size[sheet] = ofSort == MISSING ? 0 : n;
            for (int i = 0; i < MOST_ITEMS; i++) {
                items[sheet * MOST_ITEMS + i] = 0;
            }
        }

        boolean hasItem(int sheet, int i) {
            return i >= 0 && i < size[sheet];
        }

        /** 0 if a SHEET can be taken for a row of this sort. */
        int refuseRow(int sheet, int ofSort) {
            if (sort[sheet] == MISSING) {
                return NOTHING_THERE;
            }
            return sort[sheet] == ofSort ? 0 : OTHER_SORT;
        }

        void write(int sheet, int i, int v) {
            items[sheet * MOST_ITEMS + i] = narrowed(sort[sheet], v);
        }

        int itemAt(int sheet, int i) {
            return (int) items[sheet * MOST_ITEMS + i];
        }

        private static long narrowed(int ofSort, int v) {
            switch (ofSort) {
                case 0: return (byte) v;
                case 1: return (short) v;
                case 4: return v != 0 ? 1 : 0;
                default: return v;
            }
        }

        void place(int shelf, int what, int n) {
            boolean isMissing = what == SHEET_ROW && sort[n] == MISSING;
            held[shelf] = isMissing ? EMPTY : what;
            heldNumber[shelf] = what == SHEET_ROW ? size[n] : n;
            heldSort[shelf] = what == SHEET_ROW ? sort[n] : 0;
        }
    }

    /** What things do, each by the nearest body of its kind, and THE TRACE of the bodies. */
    private static final class Acts {
        static final int NO_KIND = -1;
        static final int THING = 0;
        static final int CELL = 1;
        static final int BOAT = 2;
        static final int LIGHT_BOAT = 3;
        static final int CALL = 4;
        static final int ORDER = 5;
        static final int WORD = 6;
        static final int ROW_KINDS = 10;
        private static final int MOST_TRACED = 30;

        int traced = 0;
        final int[] bodies = new int[MOST_TRACED];
        boolean parted = false;
        private int kind = THING;
        private int n = 0;
        private int a = 0;

        static boolean isUnder(int kind, int as) {
            if (kind == as) {
                return true;
            }
            if (as == THING) {
                return kind < ROW_KINDS;
            }
            return (kind == LIGHT_BOAT && as == BOAT) || (kind == ORDER && as == CALL);
        }

        void clearTrace() {
            traced = 0;
            parted = false;
        }

        void become(int ofKind, int number, int amount) {
            kind = ofKind;
            n = number;
            a = amount;
        }

        private void begin(int body) {
            if (traced < MOST_TRACED) {
                bodies[traced] = body;
                traced++;
            }
        }

        int fills(int x) {
            if (kind == CELL) {
                begin(20);
            } else if (kind == LIGHT_BOAT) {
                begin(40);
            }
            // Every body of fills goes to that of a thing first, with the same x.
            begin(10);
            int filled = x + a;
            return kind == CELL ? filled - 40 : kind == LIGHT_BOAT ? filled * 3 : filled;
        }

        int carries(int x) {
            if (kind == BOAT || kind == LIGHT_BOAT) {
                begin(30);
                return thingCarries(x) + a;
            }
            if (kind == ORDER) {
                begin(60);
                return 0 - thingCarries(x);
            }
            if (kind == WORD) {
                begin(71);
                int carried = thingCarries(x);
                return carried + fills(0);
            }
            return thingCarries(x);
        }

        int fits(int x) {
            if (kind == CELL) {
                begin(21);
                int fitted = thingFits(x);
                return parted ? 0 : fitted + fills(1);
            }
            if (kind == WORD) {
                begin(70);
                return thingFits(x * 2);
            }
            return thingFits(x);
        }

        int tells(int x) {
            if (kind == LIGHT_BOAT) {
                begin(41);
                return thingTells(x) - 1;
            }
            if (kind == CALL || kind == ORDER) {
                begin(50);
                int told = thingTells(x);
                return told ^ fills(x);
            }
            return thingTells(x);
        }

        private int thingCarries(int x) {
            begin(11);
            return fills(x) * 2 - n;
        }

        private int thingFits(int x) {
            begin(12);
            int by = a - n;
            if (by == 0) {
                parted = true;
                return 0;
            }
            return x / by;
        }

        private int thingTells(int x) {
            begin(13);
            return carries(x) ^ a;
        }
    }
}
