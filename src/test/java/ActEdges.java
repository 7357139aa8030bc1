/** 'Terms' 8 of ACTS, and promises 49 and 50, sentence by sentence. */
final class ActEdges {
    private static final int MIN = Integer.MIN_VALUE;
    private static final int MAX = Integer.MAX_VALUE;
    private static final int FILLS = 0, CARRIES = 1, FITS = 2, TELLS = 3;

    private final Edges e;

    ActEdges(Edges e) {
        this.e = e;
    }

    void all() {
        acts();
        wraps();
        kinds();
        numberAndAmount();
        bodies();
        thing();
        thingFits();
        partedBy0();
        thingTells();
        cell();
        boat();
        lightBoat();
        call();
        order();
        word();
        trace();
        firstThirty();
        act();
        actNone();
        traceOf();
        traceNone();
    }

    /** On SHELF 0: what, number n of it; a is 30 in all, BOAT, CALL, LIGHT and word alike (words: 2 leans at most). */
    private static HalfBoats holding(int what, int n) {
        HalfBoats x = new HalfBoats();
        for (int i = 0; i <= 2; i++) {
            x.set(i, 0, 30);
            x.boat(30, 0, 0, 0);
            x.call(30);
            x.light(30, 0, 0);
            x.sworn(i == 0 ? 0 : 1);
        }
        for (int i = 0; i <= 2; i++) {
            x.boat(30, 0, 0, 1);
        }
        x.shelf(0, what, n);
        return x;
    }

    private void ran(HalfBoats x, int... bodies) {
        e.is("how many bodies", x.many(13), bodies.length);
        for (int i = 0; i < bodies.length; i++) {
            e.is("body " + i, x.trace(i), bodies[i]);
        }
        e.none("behind them", x.trace(bodies.length));
    }

    private void acts() {
        e.says("8", "ACTS of things, with a number x (ints that wrap): 0 fills, 1 carries, 2 fits, 3 tells.");
        HalfBoats x = holding(2, 1);
        e.is("fills", x.act(0, 0, 5), 35);
        e.is("carries", x.act(0, 1, 5), 69);
        e.is("fits", x.act(0, 2, 58), 2);
        e.is("tells", x.act(0, 3, 5), 69 ^ 30 ^ 35);
    }

    private void wraps() {
        e.says("8", "(ints that wrap):");
        HalfBoats x = holding(2, 1);
        e.is("MAX and 30", x.act(0, FILLS, MAX), MIN + 29);
        e.is("twice that", x.act(0, CARRIES, MAX), 58 - 1);
        e.is("twice a lot", x.act(0, CARRIES, 1 << 30), MIN + 60 - 1);
        HalfBoats cell = holding(0, 1);
        e.is("MIN and 30, less 40", cell.act(0, FILLS, MIN), MAX - 9);
        HalfBoats light = holding(1, 4);
        e.is("three times a lot", light.act(0, FILLS, 1 << 30), (1 << 30) * 3 + 90);
        HalfBoats word = holding(4, 2);
        e.is("twice a lot, by -1", word.act(0, FITS, 1 << 30), MIN);
        HalfBoats call = new HalfBoats();
        call.call(0);
        call.call(0);
        call.shelf(0, 2, 1);
        e.is("MIN by -1", call.act(0, FITS, MIN), MIN);
        HalfBoats order = new HalfBoats();
        order.light(0, 0, 0);
        order.shelf(0, 3, 0);
        e.is("0 less MIN", order.act(0, CARRIES, 1 << 30), MIN);
    }

    private void kinds() {
        e.says("8", "KINDS: 0 thing, 1 cell, 2 boat, 3 light boat (under boat; of READING 1), 4 call, 5 order (under call; a LIGHT), 6 word; "
            + "cell, boat, call, word are things.");
        int[][] held = {{0, 0, 1}, {1, 0, 2}, {1, 3, 3}, {2, 0, 4}, {3, 0, 5}, {4, 0, 6}};
        for (int[] h : held) {
            HalfBoats x = holding(h[0], h[1]);
            for (int as = 0; as <= 6; as++) {
                boolean is = as == h[2] || as == 0 || h[2] == 3 && as == 2 || h[2] == 5 && as == 4;
                e.is("kind " + h[2] + " as " + as, x.taken(0, as), is ? h[1] : -13);
            }
        }
    }

    private void numberAndAmount() {
        e.says("8", "n: its number, a: of a CELL its ROOM, of a BOAT its SEATS, of a CALL its MINUTE, of a LIGHT its MINUTE, of a SWORN word its leans.");
        HalfBoats x = new HalfBoats();
        x.set(7, 0, 999);
        x.shelf(0, 0, 7);
        e.is("ROOM", x.act(0, FILLS, 0), 999 - 40);
        x.set(7, 0, 10);
        e.is("ROOM as it is then", x.act(0, FILLS, 0), 10 - 40);
        x.boat(65, 0, 500, 0);
        x.shelf(0, 1, 0);
        e.is("SEATS", x.act(0, FILLS, 0), 65);
        x.call(999);
        x.shelf(0, 2, 0);
        e.is("MINUTE of a CALL", x.act(0, FILLS, 0), 999);
        x.light(998, 5, 7);
        x.shelf(0, 3, 0);
        e.is("MINUTE of a LIGHT", x.act(0, FILLS, 0), 998);
        for (int i = 0; i < 12; i++) {
            x.sworn((1 << i) - 1);
        }
        x.shelf(0, 4, 11);
        e.is("leans", x.act(0, FILLS, 0), 2047);
        x.takeBack(11);
        e.is("of one taken back, too", x.act(0, FILLS, 0), 2047);
        HalfBoats y = holding(2, 2);
        e.is("n 2: less 2", y.act(0, CARRIES, 0), 58);
        y.shelf(0, 2, 0);
        e.is("n 0", y.act(0, CARRIES, 0), 60);
    }

    private void bodies() {
        e.says("8", "BODIES, each with its number.");
        HalfBoats x = holding(1, 3);
        x.act(0, TELLS, 5);
        ran(x, 41, 13, 30, 11, 40, 10);
    }

    private void thing() {
        e.says("8", "thing: 10 fills: x + a. 11 carries: fills(x) * 2 - n.");
        HalfBoats x = holding(2, 2);
        e.is("fills", x.act(0, FILLS, -30), 0);
        ran(x, 10);
        e.is("carries", x.act(0, CARRIES, -30), -2);
        ran(x, 11, 10);
    }

    private void thingFits() {
        e.says("8", "12 fits: x by (a - n), the rest away");
        HalfBoats x = holding(2, 2);
        int[][] cases = {{0, 0}, {27, 0}, {28, 1}, {55, 1}, {56, 2}, {-27, 0}, {-28, -1}, {-55, -1}};
        for (int[] c : cases) {
            e.is(c[0] + " by 28", x.act(0, FITS, c[0]), c[1]);
            ran(x, 12);
        }
        HalfBoats y = new HalfBoats();
        y.call(0);
        y.call(0);
        y.call(0);
        y.shelf(0, 2, 2);
        e.is("5 by -2", y.act(0, FITS, 5), -2);
        e.is("-5 by -2", y.act(0, FITS, -5), 2);
    }

    private void partedBy0() {
        e.says("8", "(-15 if these are the same; that is all that act() answers then).");
        HalfBoats x = new HalfBoats();
        x.call(5);
        x.call(1);
        x.shelf(0, 2, 1);
        e.is("a and n are 1", x.act(0, FITS, 7), -15);
        ran(x, 12);
        e.is("0 as well", x.act(0, FITS, 0), -15);
        HalfBoats y = new HalfBoats();
        y.sworn(0);
        y.shelf(0, 4, 0);
        e.is("a word: nothing is added", y.act(0, FITS, 7), -15);
        ran(y, 70, 12);
        HalfBoats z = new HalfBoats();
        z.light(0, 0, 0);
        z.shelf(0, 3, 0);
        e.is("a LIGHT", z.act(0, FITS, MIN), -15);
        e.is("the other acts go on", z.act(0, FILLS, 7), 7);
        ran(z, 10);
        z.shelf(0, 0, 2);
        e.is("and what fits, too: 196 by 98, and 61", z.act(0, FITS, 196), 2 + 61);
        ran(z, 21, 12, 20, 10);
    }

    private void thingTells() {
        e.says("8", "13 tells: carries(x) ^ a.");
        HalfBoats x = holding(1, 2);
        e.is("tells of a boat", x.act(0, TELLS, 5), 70 - 2 + 30 ^ 30);
        ran(x, 13, 30, 11, 10);
    }

    private void cell() {
        e.says("8", "cell: 20 fills: super.fills(x) - 40. 21 fits: super.fits(x) + fills(1).");
        HalfBoats x = holding(0, 2);
        e.is("fills", x.act(0, FILLS, 5), -5);
        ran(x, 20, 10);
        e.is("carries", x.act(0, CARRIES, 5), -12);
        ran(x, 11, 20, 10);
        e.is("fits", x.act(0, FITS, 56), 2 - 9);
        ran(x, 21, 12, 20, 10);
        e.is("tells", x.act(0, TELLS, 5), -12 ^ 30);
        ran(x, 13, 11, 20, 10);
    }

    private void boat() {
        e.says("8", "boat: 30 carries: super.carries(x) + a.");
        HalfBoats x = holding(1, 2);
        e.is("fills", x.act(0, FILLS, 5), 35);
        ran(x, 10);
        e.is("carries", x.act(0, CARRIES, 5), 98);
        ran(x, 30, 11, 10);
        e.is("fits", x.act(0, FITS, 56), 2);
        ran(x, 12);
    }

    private void lightBoat() {
        e.says("8", "light boat: 40 fills: super.fills(x) * 3. 41 tells: super.tells(x) - 1.");
        HalfBoats x = holding(1, 4);
        e.is("fills", x.act(0, FILLS, 5), 105);
        ran(x, 40, 10);
        e.is("carries as a boat", x.act(0, CARRIES, 5), 210 - 4 + 30);
        ran(x, 30, 11, 40, 10);
        e.is("fits", x.act(0, FITS, 52), 2);
        ran(x, 12);
        e.is("tells", x.act(0, TELLS, 5), (236 ^ 30) - 1);
        ran(x, 41, 13, 30, 11, 40, 10);
    }

    private void call() {
        e.says("8", "call: 50 tells: super.tells(x) ^ fills(x).");
        HalfBoats x = holding(2, 1);
        e.is("tells", x.act(0, TELLS, 5), 69 ^ 30 ^ 35);
        ran(x, 50, 13, 11, 10, 10);
    }

    private void order() {
        e.says("8", "order: 60 carries: 0 - super.carries(x).");
        HalfBoats x = holding(3, 1);
        e.is("fills", x.act(0, FILLS, 5), 35);
        ran(x, 10);
        e.is("carries", x.act(0, CARRIES, 5), -69);
        ran(x, 60, 11, 10);
        e.is("tells as a call", x.act(0, TELLS, 5), -69 ^ 30 ^ 35);
        ran(x, 50, 13, 60, 11, 10, 10);
    }

    private void word() {
        e.says("8", "word: 70 fits: super.fits(x * 2). 71 carries: super.carries(x) + fills(0).");
        HalfBoats x = holding(4, 2);
        e.is("fits: 10 by (1 less 2)", x.act(0, FITS, 5), -10);
        ran(x, 70, 12);
        e.is("carries: 12 less 2, and 1", x.act(0, CARRIES, 5), 11);
        ran(x, 71, 11, 10, 10);
        e.is("tells", x.act(0, TELLS, 5), 11 ^ 1);
        ran(x, 13, 71, 11, 10, 10);
    }

    private void trace() {
        e.says("8", "THE TRACE: numbers of the bodies that ran in the latest act(), as they began (left first);");
        HalfBoats x = holding(3, 1);
        x.act(0, TELLS, 5);
        ran(x, 50, 13, 60, 11, 10, 10);
        x.act(0, FILLS, 5);
        ran(x, 10);
        x.minutes(1);
        x.taken(0, 0);
        x.shelf(0, 6, 0);
        ran(x, 10);
    }

    private void firstThirty() {
        e.says("8", "the first 30 are kept.");
        int longest = 0;
        int[][] held = {{0, 0}, {1, 0}, {1, 3}, {2, 0}, {3, 0}, {4, 0}};
        for (int[] h : held) {
            HalfBoats x = holding(h[0], h[1]);
            for (int act = 0; act <= 3; act++) {
                x.act(0, act, 5);
                longest = Math.max(longest, x.many(13));
            }
        }
        // No act has more bodies than six, so none is ever cut.
        e.is("the longest", longest, 6);
        HalfBoats y = holding(1, 3);
        for (int i = 0; i < 20; i++) {
            y.act(0, TELLS, i);
        }
        ran(y, 41, 13, 30, 11, 40, 10);
    }

    private void act() {
        e.says("P49", "An ACT (0 to 3) of the thing on a SHELF, with x.");
        HalfBoats x = holding(1, 0);
        for (int shelf = 0; shelf < 4; shelf++) {
            x.shelf(shelf, 1, shelf);
            e.is("on SHELF " + shelf, x.act(shelf, CARRIES, 5), (shelf == 3 ? 210 : 70) - shelf + 30);
        }
    }

    private void actNone() {
        e.says("P49", "0, and no TRACE then: no such SHELF, act, nothing, a row.");
        for (int sort = 0; sort <= 4; sort++) {
            HalfBoats y = holding(1, 0);
            y.sheet(0, sort, 3);
            y.shelf(1, 5, 0);
            y.act(0, TELLS, 5);
            e.is("a row of sort " + sort, y.act(1, FILLS, 5), 0);
            ran(y);
        }
        HalfBoats x = holding(1, 0);
        x.sheet(0, 2, 3);
        x.shelf(1, 5, 0);
        int[][] no = {{-1, 0}, {4, 0}, {MIN, 0}, {MAX, 0}, {0, -1}, {0, 4}, {0, MIN}, {0, MAX}, {2, 0}, {2, 3}, {1, 0}, {1, 3}};
        for (int[] n : no) {
            x.act(0, TELLS, 5);
            e.is("a TRACE ahead", x.many(13), 4);
            e.is("act(" + n[0] + ", " + n[1] + ", 5)", x.act(n[0], n[1], 5), 0);
            ran(x);
        }
        x.keep();
        x.boat(5, 0, 0, 0);
        x.shelf(3, 1, 6);
        e.is("there", x.act(3, FILLS, 1), 6);
        x.again();
        e.is("not there any more", x.act(3, FILLS, 1), 0);
        ran(x);
    }

    private void traceOf() {
        e.says("P50", "THE TRACE's i-th body.");
        HalfBoats x = holding(1, 3);
        x.act(0, TELLS, 5);
        int[] want = {41, 13, 30, 11, 40, 10};
        for (int i = 0; i < 6; i++) {
            e.is("trace(" + i + ")", x.trace(i), want[i]);
        }
    }

    private void traceNone() {
        e.says("P50", "NONE.");
        e.none("new", new HalfBoats().trace(0));
        HalfBoats x = holding(1, 3);
        x.act(0, TELLS, 5);
        int[] no = {MIN, -1, 6, 29, 30, MAX};
        for (int i : no) {
            e.none("trace(" + i + ")", x.trace(i));
        }
    }
}
