/** 'Terms' 2 and promises 9 and 10, sentence by sentence. */
final class SoundingEdges {
    private static final int MIN = Integer.MIN_VALUE;
    private static final int MAX = Integer.MAX_VALUE;

    private final Edges e;

    SoundingEdges(Edges e) {
        this.e = e;
    }

    void all() {
        soundings();
        explain();
        oneRate();
        asTheyAre();
        sunkAsAbove();
        fewest();
        leastRate();
        leastBits();
        number();
        bad();
        full();
        explained();
        explainedBad();
        explainedNone();
        withoutSoundings();
    }

    private void both(String name, HalfBoats x, int cells, int rate) {
        e.is(name + ": CELLS", x.explained(0), cells);
        e.is(name + ": rate", x.explained(1), rate);
    }

    private void soundings() {
        e.says("2", "SOUNDINGS, 16 at most, numbered as they come: in a CELL, in a MINUTE (0 to 60), WATER was from so many to so many tons.");
        HalfBoats x = new HalfBoats();
        e.bad("MINUTE -1", x.sounding(0, -1, 0, 0));
        e.bad("MINUTE 61", x.sounding(0, 61, 0, 0));
        for (int i = 0; i < 16; i++) {
            e.is("number", x.sounding(i % 8, i % 2 == 0 ? 60 : 0, 0, 0), i);
        }
        e.full("the 17th", x.sounding(0, 0, 0, 0));
        e.is("how many", x.many(1), 16);
        // 4 tons in MINUTE 1 by rate 1: both ends are within.
        int[][] cases = {{4, 4, 1}, {0, 3, 0}, {5, 7, HalfBoats.NONE}, {4, 7, 1}, {1, 4, 1}};
        for (int[] c : cases) {
            HalfBoats y = new HalfBoats();
            y.sounding(0, 1, c[0], c[1]);
            e.is("from " + c[0] + " to " + c[1], y.explained(0), c[2]);
        }
    }

    private void explain() {
        e.says("2", "HOLES that EXPLAIN them: some CELLS (bits) with HOLES of one rate (1 to 9), all others none, such that all SOUNDINGS hold, "
            + "if all is dry in MINUTE 0,");
        HalfBoats x = new HalfBoats();
        x.set(5, 1, 7);
        x.minutes(3);
        x.sounding(5, 1, 0, 0);
        both("her own HOLE and WATER are not looked at", x, 0, 1);
        x.sounding(2, 1, 36, 36);
        both("rate 9", x, 4, 9);
        x.sounding(2, 0, 0, 0);
        both("dry in MINUTE 0", x, 4, 9);
        x.sounding(2, 0, 1, 999);
        both("not dry in MINUTE 0", x, HalfBoats.NONE, HalfBoats.NONE);
        HalfBoats y = new HalfBoats();
        y.sounding(2, 1, 37, 999);
        both("no rate 10", y, HalfBoats.NONE, HalfBoats.NONE);
    }

    private void oneRate() {
        e.says("2", "with HOLES of one rate (1 to 9), all others none,");
        HalfBoats x = new HalfBoats();
        x.sounding(0, 1, 8, 12);
        x.sounding(7, 1, 12, 16);
        both("both by rate 3", x, 129, 3);
        x.sounding(7, 1, 13, 16);
        both("no rate for both", x, HalfBoats.NONE, HalfBoats.NONE);
        HalfBoats y = new HalfBoats();
        for (int i = 0; i < 8; i++) {
            y.sounding(i, 1, 36, 36);
        }
        both("all eight CELLS", y, 255, 9);
    }

    private void asTheyAre() {
        e.says("2", "with ROOMS, PUMPS, WALLS and DOORS as they are");
        HalfBoats x = new HalfBoats();
        x.sounding(3, 1, 10, 10);
        both("10 tons by no rate", x, HalfBoats.NONE, HalfBoats.NONE);
        x.set(3, 0, 10);
        both("ROOM 10", x, 8, 3);
        x.set(3, 0, 100);
        x.set(3, 2, 2);
        both("PUMP 2: 12 less 2", x, 8, 3);
        HalfBoats y = new HalfBoats();
        y.sounding(3, 1, 0, 0);
        y.sounding(3, 2, 2, 2);
        both("dry in MINUTE 1, 2 tons then", y, HalfBoats.NONE, HalfBoats.NONE);
        y.door(2, true);
        both("by the DOOR: 8 by 4", y, 4, 2);
        y.door(2, false);
        y.wall(3, 0);
        both("over WALL 3", y, 16, 2);
        y.wall(3, 4);
        both("over WALL 3 at 4: 12 less 4 by 4", y, 16, 3);
    }

    private void sunkAsAbove() {
        e.says("2", "(SUNK as above).");
        HalfBoats y = Look.sunk();
        int water = y.cell(3, 0);
        for (int i = 0; i < 4; i++) {
            y.sounding(i, 60, y.cell(i, 0), y.cell(i, 0));
        }
        both("WATER stays from then on", y, 15, 9);
        y.sounding(3, 60, water + 1, 999);
        both("and is no more", y, HalfBoats.NONE, HalfBoats.NONE);
    }

    private void fewest() {
        e.says("2", "THE EXPLANATION: the fewest CELLS;");
        HalfBoats x = new HalfBoats();
        x.wall(0, 0);
        x.sounding(0, 2, 1, 999);
        x.sounding(1, 2, 1, 999);
        // Two HOLES of rate 1 would do, too; one in CELL 0 of rate 1 gives 4 in MINUTE 1 and 1 over the WALL.
        both("one CELL, not two", x, 1, 1);
        HalfBoats y = new HalfBoats();
        y.wall(0, 20);
        y.sounding(0, 2, 1, 999);
        y.sounding(1, 2, 1, 999);
        both("one CELL of a greater rate, not two of rate 1", y, 1, 6);
        HalfBoats z = new HalfBoats();
        z.sounding(0, 60, 0, 0);
        both("no CELL, if dry will do", z, 0, 1);
    }

    private void leastRate() {
        e.says("2", "of several the least rate;");
        HalfBoats x = new HalfBoats();
        x.sounding(6, 1, 9, 999);
        both("12 by rate 3, the first above 8", x, 64, 3);
        HalfBoats y = new HalfBoats();
        y.door(0, true);
        // Of rate 2 in CELL 0, too, 2 tons would come by the DOOR: but the rate goes ahead of the bits.
        y.sounding(1, 2, 2, 999);
        both("rate 1 in CELL 1", y, 2, 1);
    }

    private void leastBits() {
        e.says("2", "of several the least bits.");
        HalfBoats x = new HalfBoats();
        x.door(3, true);
        x.sounding(3, 2, 1, 999);
        both("CELL 3 itself", x, 8, 1);
        HalfBoats y = new HalfBoats();
        y.door(3, true);
        y.door(4, true);
        y.sounding(4, 1, 0, 0);
        y.sounding(4, 2, 1, 1);
        both("from CELL 3 or from CELL 5: CELL 3", y, 8, 1);
        y.sounding(3, 1, 0, 0);
        both("from CELL 5 then", y, 32, 1);
    }

    private void number() {
        e.says("P9", "A SOUNDING: its number.");
        HalfBoats x = new HalfBoats();
        e.is("the first", x.sounding(7, 60, 999, 999), 0);
        e.is("the same again", x.sounding(7, 60, 999, 999), 1);
        e.is("an earlier MINUTE", x.sounding(0, 0, 0, 0), 2);
    }

    private void bad() {
        e.says("P9", "BAD: there is no such CELL, MINUTE, from and to aren't 0 to 999, or to is below from;");
        HalfBoats x = new HalfBoats();
        int[][] no = {{-1, 0, 0, 0}, {8, 0, 0, 0}, {MIN, 0, 0, 0}, {MAX, 0, 0, 0}, {0, -1, 0, 0}, {0, 61, 0, 0}, {0, 999, 0, 0}, {0, MIN, 0, 0}, {0, MAX, 0, 0},
            {0, 0, -1, 0}, {0, 0, -1, -1}, {0, 0, 0, 1000}, {0, 0, 1000, 1000}, {0, 0, MIN, MAX}, {0, 0, 0, MAX}, {0, 0, MIN, 0}, {0, 0, 1, 0}, {0, 0, 999, 998},
            {0, 0, MAX, MIN}};
        for (int[] n : no) {
            e.bad("sounding(" + n[0] + ", " + n[1] + ", " + n[2] + ", " + n[3] + ")", x.sounding(n[0], n[1], n[2], n[3]));
        }
        e.is("none came", x.many(1), 0);
        e.is("from 0 to 999", x.sounding(0, 0, 0, 999), 0);
        e.is("from 999 to 999", x.sounding(0, 0, 999, 999), 1);
        e.is("from 0 to 0", x.sounding(0, 0, 0, 0), 2);
    }

    private void full() {
        e.says("P9", "FULL.");
        HalfBoats x = new HalfBoats();
        for (int i = 0; i < 15; i++) {
            x.sounding(0, 0, 0, 0);
        }
        e.is("the 16th", x.sounding(0, 0, 0, 0), 15);
        e.full("the 17th", x.sounding(0, 0, 0, 0));
        e.is("how many", x.many(1), 16);
    }

    private void explained() {
        e.says("P10", "THE EXPLANATION: what = 0 its CELLS, as bits, 1 its rate.");
        HalfBoats x = new HalfBoats();
        x.sounding(7, 1, 20, 20);
        x.sounding(0, 1, 20, 20);
        both("CELLS 0 and 7", x, 129, 5);
        e.is("asked again", x.explained(0), 129);
        x.sounding(1, 1, 20, 20);
        both("one more", x, 131, 5);
    }

    private void explainedBad() {
        e.says("P10", ". BAD;");
        HalfBoats x = new HalfBoats();
        int[] no = {MIN, -1, 2, MAX};
        for (int what : no) {
            e.bad("explained(" + what + ")", x.explained(what));
        }
    }

    private void explainedNone() {
        e.says("P10", "NONE.");
        HalfBoats x = new HalfBoats();
        x.sounding(0, 0, 1, 1);
        both("WATER in MINUTE 0", x, HalfBoats.NONE, HalfBoats.NONE);
        HalfBoats y = new HalfBoats();
        y.sounding(0, 5, 0, 0);
        y.sounding(0, 5, 1, 999);
        both("two that can't both hold", y, HalfBoats.NONE, HalfBoats.NONE);
    }

    private void withoutSoundings() {
        e.says("P10", "(Without SOUNDINGS: no CELLS, rate 1.)");
        both("new", new HalfBoats(), 0, 1);
        both("SUNK", Look.sunk(), 0, 1);
    }
}
