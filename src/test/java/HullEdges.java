/** 'Terms' 1 and promises 1 to 8, sentence by sentence. */
final class HullEdges {
    private static final int MIN = Integer.MIN_VALUE;
    private static final int MAX = Integer.MAX_VALUE;

    private final Edges e;

    HullEdges(Edges e) {
        this.e = e;
    }

    void all() {
        minutesAre();
        nowIsOne();
        cells();
        cellsAtFirst();
        walls();
        wallsAtFirst();
        level();
        depth();
        tilt();
        outside();
        outsideBounds();
        holes();
        allAtOnce();
        pumps();
        overWalls();
        waterBounds();
        sunkAsTold();
        newObject();
        minutesGoBy();
        minutesBad();
        minutesState();
        set();
        setBad();
        wall();
        wallBad();
        door();
        doorBad();
        cell();
        cellBad();
        sunk();
        sunkNone();
        sinks();
        sinksBad();
        sinksNone();
        sinksState();
    }

    /** HOLES of a rate in some CELLS (bits), for one MINUTE: 4 times the rate of tons in each, if ROOM is 40 or more. */
    private static HalfBoats flooded(int cells, int rate) {
        HalfBoats x = new HalfBoats();
        flood(x, cells, rate);
        return x;
    }

    private static void flood(HalfBoats x, int cells, int rate) {
        holes(x, cells, rate);
        x.minutes(1);
        holes(x, cells, 0);
    }

    private static void holes(HalfBoats x, int cells, int rate) {
        for (int i = 0; i < 8; i++) {
            if ((cells >> i & 1) == 1) {
                x.set(i, 1, rate);
            }
        }
    }

    private static HalfBoats late(int now) {
        HalfBoats x = new HalfBoats();
        for (int left = now; left > 0; left -= Math.min(left, 200)) {
            x.minutes(Math.min(left, 200));
        }
        return x;
    }

    private void minutesAre() {
        e.says("1", "MINUTES are 0 to 999;");
        HalfBoats x = new HalfBoats();
        x.ship(5050, 1, 0, 0);
        int[] no = {MIN, -1, 1000, MAX};
        for (int m : no) {
            e.bad("way till " + m, x.way(0, 1, 1, m));
            e.bad("group told " + m, x.group(1, 0, 0, m));
            e.bad("boat lowered " + m, x.boat(1, 0, m, 0));
            e.bad("call " + m, x.call(m));
            e.bad("light " + m, x.light(m, 0, 0));
            e.bad("standing " + m, x.standing(m));
            e.bad("lack " + m, x.lack(m));
            e.bad("rank " + m, x.rank(0, m));
            e.bad("must " + m, x.must(0, m));
        }
        for (int i = 0; i < 2; i++) {
            int m = i * 999;
            e.is("way till " + m, x.way(0, 1, 1, m), i);
            e.is("group told " + m, x.group(1, 0, 0, m), i);
            e.is("boat lowered " + m, x.boat(1, 0, m, 0), i);
            e.is("call " + m, x.call(m), i);
            e.is("light " + m, x.light(m, 0, 0), i);
            e.is("standing " + m, x.standing(m), 0);
            e.is("lack " + m, x.lack(m), 0);
            e.is("rank " + m, x.rank(0, m), 9);
            e.is("must " + m, x.must(0, m), 0);
        }
    }

    private void nowIsOne() {
        e.says("1", "NOW is one (0 at first).");
        e.is("at first", new HalfBoats().many(0), 0);
        e.is("at last", late(999).many(0), 999);
    }

    private void cells() {
        e.says("1", "THE HULL has CELLS 0 (the bow) to 7: each with ROOM (10 to 999 tons;");
        HalfBoats x = new HalfBoats();
        for (int i = 0; i < 8; i++) {
            e.bad("ROOM 9 of CELL " + i, x.set(i, 0, 9));
            e.is("ROOM 10 of CELL " + i, x.set(i, 0, 10), 100);
            e.is("ROOM 999 of CELL " + i, x.set(i, 0, 999), 10);
            e.bad("ROOM 1000 of CELL " + i, x.set(i, 0, 1000));
            e.is("ROOM stays, CELL " + i, x.set(i, 0, 100), 999);
        }
        e.bad("CELL -1", x.set(-1, 0, 100));
        e.bad("CELL 8", x.set(8, 0, 100));
        HalfBoats y = flooded(1, 9);
        e.is("the bow goes down with WATER in CELL 0", y.cell(0, 2), 43);
        e.is("the other end comes up", y.cell(7, 2), 39);
    }

    private void cellsAtFirst() {
        e.says("1", "100 at first), WATER (0 at first), a HOLE and a PUMP (0 to 9 each; 0 at first).");
        HalfBoats x = new HalfBoats();
        for (int i = 0; i < 8; i++) {
            e.is("WATER of CELL " + i, x.cell(i, 0), 0);
            e.is("ROOM of CELL " + i, x.set(i, 0, 50), 100);
            for (int what = 1; what <= 2; what++) {
                e.bad("-1 of CELL " + i, x.set(i, what, -1));
                e.bad("10 of CELL " + i, x.set(i, what, 10));
                e.is("0 at first, CELL " + i, x.set(i, what, 9), 0);
                e.is("9 then, CELL " + i, x.set(i, what, 0), 9);
            }
        }
    }

    private void walls() {
        e.says("1", "WALL i (0 to 6) is between CELLS i and i + 1, with a HEIGHT (0 to 100;");
        for (int w = 0; w < 7; w++) {
            HalfBoats x = flooded(1 << w, 9);
            e.bad("HEIGHT -1", x.wall(w, -1));
            e.bad("HEIGHT 101", x.wall(w, 101));
            e.is("HEIGHT 0", x.wall(w, 0), 100);
            x.minutes(1);
            for (int i = 0; i < 8; i++) {
                e.is("over WALL " + w + ": CELL " + i, x.cell(i, 0), i == w ? 27 : i == w + 1 ? 9 : 0);
            }
        }
        e.bad("WALL -1", new HalfBoats().wall(-1, 0));
        e.bad("WALL 7", new HalfBoats().wall(7, 0));
    }

    private void wallsAtFirst() {
        e.says("1", "100 at first) and a DOOR, open or shut (at first).");
        HalfBoats x = new HalfBoats();
        x.set(0, 0, 10);
        flood(x, 1, 9);
        e.is("a CELL that is full", x.cell(0, 1), 100);
        x.minutes(1);
        e.is("nothing goes over 100", x.cell(1, 0), 0);
        for (int w = 0; w < 7; w++) {
            e.is("HEIGHT of WALL " + w, x.wall(w, 50), 100);
            e.is("DOOR of WALL " + w, x.door(w, true), 0);
        }
    }

    private void level() {
        e.says("1", "LEVEL of a CELL: 100 times WATER by ROOM, cut.");
        int[][] cases = {{999, 9, 3}, {100, 9, 36}, {37, 9, 97}, {36, 9, 100}, {10, 9, 100}, {999, 2, 0}, {801, 2, 0}, {800, 2, 1}, {100, 0, 0}};
        for (int[] c : cases) {
            HalfBoats x = new HalfBoats();
            x.set(2, 0, c[0]);
            flood(x, 4, c[1]);
            e.is(4 * c[1] + " tons in " + c[0], x.cell(2, 1), c[2]);
        }
    }

    private void depth() {
        e.says("1", "DEPTH: 40 and all WATER by 20, cut.");
        // CELLS 3 and 4 alike leave TILT at 0.
        int[] want = {40, 40, 40, 41, 41, 42, 42, 42, 43, 43};
        for (int rate = 0; rate <= 9; rate++) {
            HalfBoats x = flooded(0b11000, rate);
            e.is("all WATER " + 8 * rate, x.cell(0, 2), want[rate]);
            e.is("all WATER " + 8 * rate, x.cell(7, 2), want[rate]);
        }
    }

    private void tilt() {
        e.says("1", "TILT: the sum of WATER of CELL i times (7 less 2 i), by 100, cut towards 0.");
        e.is("84 by 100: OUTSIDE 0", flooded(1, 3).cell(0, 2), 40);
        e.is("84 by 100: OUTSIDE 7", flooded(1, 3).cell(7, 2), 40);
        e.is("112 by 100: OUTSIDE 0", flooded(1, 4).cell(0, 2), 41);
        e.is("112 by 100: OUTSIDE 7", flooded(1, 4).cell(7, 2), 39);
        e.is("-84 by 100: OUTSIDE 0", flooded(128, 3).cell(0, 2), 40);
        e.is("-84 by 100: OUTSIDE 7", flooded(128, 3).cell(7, 2), 40);
        e.is("-112 by 100: OUTSIDE 0", flooded(128, 4).cell(0, 2), 39);
        e.is("-112 by 100: OUTSIDE 7", flooded(128, 4).cell(7, 2), 41);
        e.is("20 times 5: OUTSIDE 0 is 41 and 1", flooded(2, 5).cell(0, 2), 42);
        e.is("20 times -5: OUTSIDE 0 is 41 less 1", flooded(64, 5).cell(0, 2), 40);
        e.is("36 times 3: OUTSIDE 0 is 41 and 1", flooded(4, 9).cell(0, 2), 42);
        HalfBoats x = new HalfBoats();
        x.set(2, 2, 3);
        flood(x, 4, 9);
        e.is("33 times 3 is 99: none", x.cell(0, 2), 41);
        e.is("36 times 1 is none", flooded(8, 9).cell(0, 2), 41);
        e.is("36 times -1 is none", flooded(16, 9).cell(0, 2), 41);
    }

    private void outside() {
        e.says("1", "OUTSIDE of CELL i: DEPTH and TILT times (7 less 2 i) by 7, cut towards 0;");
        int[] want = {43, 42, 41, 41, 41, 41, 40, 39};
        HalfBoats bow = flooded(1, 9);
        HalfBoats stern = flooded(128, 9);
        for (int i = 0; i < 8; i++) {
            e.is("DEPTH 41, TILT 2, CELL " + i, bow.cell(i, 2), want[i]);
            e.is("DEPTH 41, TILT -2, CELL " + i, stern.cell(i, 2), want[7 - i]);
        }
    }

    private void outsideBounds() {
        e.says("1", "0 at least, 100 at most.");
        for (int end = 0; end < 2; end++) {
            HalfBoats x = new HalfBoats();
            for (int i = 0; i < 4; i++) {
                x.set(i + 4 * end, 0, 999);
            }
            holes(x, end == 0 ? 15 : 240, 9);
            for (int m = 1; m <= 10; m++) {
                x.minutes(1);
                for (int i = 0; i < 8; i++) {
                    e.is("in MINUTE " + m + " CELL " + i + " is within", x.cell(i, 2) >= 0 && x.cell(i, 2) <= 100 ? 1 : 0, 1);
                }
            }
            // DEPTH 76 (732 tons) and TILT 30 would be 106.
            e.is("all WATER", x.many(14), 732);
            e.is("100 at most", x.cell(7 * end, 2), 100);
        }
    }

    private void holes() {
        e.says("1", "into CELL i comes HOLE times (OUTSIDE less LEVEL) by 10, cut, if that is above 0;");
        for (int rate = 0; rate <= 9; rate++) {
            e.is("HOLE " + rate + ": by 40", flooded(32, rate).cell(5, 0), 4 * rate);
        }
        HalfBoats x = new HalfBoats();
        x.set(7, 0, 200);
        x.set(7, 1, 9);
        x.minutes(2);
        e.is("9 times (43 less 18) by 10: 22", x.cell(7, 0), 36 + 22);
        HalfBoats y = new HalfBoats();
        y.set(3, 0, 10);
        y.set(3, 1, 9);
        y.minutes(1);
        e.is("LEVEL above OUTSIDE", y.cell(3, 1) > y.cell(3, 2) ? 1 : 0, 1);
        y.minutes(5);
        e.is("nothing comes, nothing goes", y.cell(3, 0), 10);
        HalfBoats z = new HalfBoats();
        z.set(3, 1, 1);
        z.minutes(200);
        // 1 times 9 by 10 is none: 32 tons, OUTSIDE 41.
        e.is("WATER in the end", z.cell(3, 0), 32);
        e.is("OUTSIDE in the end", z.cell(3, 2), 41);
    }

    private void allAtOnce() {
        e.says("1", "As a MINUTE goes by, all at once, by what was ahead of it:");
        HalfBoats x = new HalfBoats();
        x.set(0, 1, 9);
        for (int w = 0; w < 7; w++) {
            x.door(w, true);
        }
        int[][] want = {{36, 0, 0}, {33, 9, 0}, {36, 13, 2}};
        // 36; then 6 in (by 43 less 36), 9 on; then 9 in (by 44 less 33), 6 on (24 by 4), 2 on (9 by 4).
        for (int m = 0; m < 3; m++) {
            x.minutes(1);
            for (int i = 0; i < 3; i++) {
                e.is("MINUTE " + (m + 1) + ", CELL " + i, x.cell(i, 0), want[m][i]);
            }
        }
        HalfBoats y = flooded(255, 9);
        e.is("every HOLE by OUTSIDE as it was", y.many(14), 8 * 36);
    }

    private void pumps() {
        e.says("1", "PUMP goes out;");
        HalfBoats x = new HalfBoats();
        x.set(4, 1, 9);
        x.set(4, 2, 9);
        x.minutes(1);
        e.is("36 in, 9 out", x.cell(4, 0), 27);
        x.set(4, 1, 0);
        x.minutes(2);
        e.is("18 out", x.cell(4, 0), 9);
        x.set(4, 2, 1);
        x.minutes(8);
        e.is("8 out", x.cell(4, 0), 1);
        x.set(4, 2, 0);
        x.minutes(1);
        e.is("none out", x.cell(4, 0), 1);
    }

    private void overWalls() {
        e.says("1", "at each WALL, with SILL 0, if its DOOR is open, else its HEIGHT: if the greater LEVEL of its two CELLS is above SILL, and above the lesser one, "
            + "then that LEVEL less the greater of SILL and the lesser LEVEL, by 4, cut, goes from the one to the other (tons).");
        // HOLE on either side for a MINUTE (LEVEL is 4 times that), HEIGHT, DOOR, tons that go over
        int[][] cases = {{9, 0, 100, 0, 0}, {9, 0, 36, 0, 0}, {9, 0, 35, 0, 0}, {9, 0, 33, 0, 0}, {9, 0, 32, 0, 1}, {9, 0, 0, 0, 9}, {9, 0, 100, 1, 9},
            {9, 9, 0, 0, 0}, {9, 9, 0, 1, 0}, {9, 8, 0, 0, 1}, {8, 9, 0, 0, -1}, {9, 5, 10, 0, 4}, {9, 5, 20, 0, 4}, {9, 5, 21, 0, 3}, {9, 5, 30, 0, 1},
            {0, 9, 20, 0, -4}, {5, 9, 100, 1, -4}, {5, 9, 36, 0, 0}, {0, 0, 0, 1, 0}};
        for (int[] c : cases) {
            HalfBoats x = new HalfBoats();
            x.set(2, 1, c[0]);
            x.set(3, 1, c[1]);
            x.minutes(1);
            x.set(2, 1, 0);
            x.set(3, 1, 0);
            x.wall(2, c[2]);
            x.door(2, c[3] == 1);
            x.minutes(1);
            String name = 4 * c[0] + " and " + 4 * c[1] + ", HEIGHT " + c[2] + (c[3] == 1 ? ", open" : "");
            e.is(name + ": CELL 2", x.cell(2, 0), 4 * c[0] - c[4]);
            e.is(name + ": CELL 3", x.cell(3, 0), 4 * c[1] + c[4]);
        }
        HalfBoats y = new HalfBoats();
        y.set(2, 0, 200);
        flood(y, 4, 9);
        y.door(2, true);
        y.minutes(1);
        e.is("LEVEL 18 by 4: tons", y.cell(3, 0), 4);
    }

    private void waterBounds() {
        e.says("1", "WATER is 0 at least, ROOM at most then.");
        HalfBoats x = new HalfBoats();
        x.set(1, 0, 10);
        x.set(1, 1, 9);
        x.set(1, 2, 9);
        x.set(2, 1, 1);
        x.set(2, 2, 9);
        x.set(3, 2, 9);
        x.minutes(1);
        e.is("36 in, 9 out, ROOM 10: cut at the end alone", x.cell(1, 0), 10);
        e.is("4 in, 9 out", x.cell(2, 0), 0);
        e.is("9 out of none", x.cell(3, 0), 0);
        HalfBoats y = flooded(1, 9);
        y.set(1, 0, 10);
        y.wall(0, 0);
        y.set(0, 2, 9);
        y.minutes(1);
        e.is("9 over the WALL, 9 out", y.cell(0, 0), 18);
        e.is("9 came", y.cell(1, 0), 9);
        y.wall(0, 100);
        y.wall(1, 0);
        y.minutes(1);
        e.is("LEVEL 90: 22 tons go, and 9 there were", y.cell(1, 0), 0);
        e.is("22 came", y.cell(2, 0), 22);
    }

    private void sunkAsTold() {
        e.says("1", "SUNK she is in the first MINUTE behind which OUTSIDE of CELL 0 or of CELL 7 is 100: from then on WATER stays as it is.");
        for (int end = 0; end < 2; end++) {
            HalfBoats x = new HalfBoats();
            for (int i = 0; i < 4; i++) {
                x.set(i + 4 * end, 0, 999);
            }
            holes(x, end == 0 ? 15 : 240, 9);
            int[] outside = {52, 67, 85, 100, 100, 100};
            int[] water = {144, 310, 504, 732, 732, 732};
            for (int m = 1; m <= 6; m++) {
                x.minutes(1);
                e.is("OUTSIDE in MINUTE " + m, x.cell(7 * end, 2), outside[m - 1]);
                e.is("all WATER in MINUTE " + m, x.many(14), water[m - 1]);
                e.is("SUNK, asked in MINUTE " + m, x.sunk(), m < 4 ? HalfBoats.NONE : 4);
            }
            HalfBoats y = new HalfBoats();
            for (int i = 0; i < 4; i++) {
                y.set(i + 4 * end, 0, 191);
            }
            holes(y, end == 0 ? 15 : 240, 9);
            y.minutes(200);
            e.is("OUTSIDE in the end", y.cell(7 * end, 2), 99);
            e.none("99 is not 100", y.sunk());
            x.set(4 * end, 2, 9);
            x.set(4 - 4 * end, 1, 9);
            x.door(3, true);
            x.minutes(200);
            e.is("no PUMP, HOLE or DOOR changes it", x.many(14), 732);
        }
    }

    private void newObject() {
        e.says("P1", "MINUTE 0; all dry; nothing else.");
        HalfBoats x = new HalfBoats();
        for (int what = 0; what <= 15; what++) {
            e.is("many(" + what + ")", x.many(what), 0);
        }
        for (int i = 0; i < 8; i++) {
            e.is("WATER of CELL " + i, x.cell(i, 0), 0);
        }
        for (int i = 0; i < 4; i++) {
            e.is("SHEET " + i, x.item(i, 0, 0), -11);
            e.is("SHELF " + i, x.taken(i, 0), -11);
        }
        for (int i = 0; i < 3; i++) {
            e.is("LIST " + i, x.list(i, 0), 0);
        }
        e.none("trace", x.trace(0));
        e.is("row", x.row(0, 0), -9);
        e.none("sunk", x.sunk());
        e.none("again", x.again());
    }

    private void minutesGoBy() {
        e.says("P2", "n MINUTES (1 to 200) go by: NOW.");
        HalfBoats x = new HalfBoats();
        e.is("1", x.minutes(1), 1);
        e.is("200", x.minutes(200), 201);
        e.is("NOW", x.many(0), 201);
        HalfBoats y = new HalfBoats();
        HalfBoats z = new HalfBoats();
        y.set(0, 1, 2);
        z.set(0, 1, 2);
        y.minutes(7);
        for (int i = 0; i < 7; i++) {
            z.minutes(1);
        }
        e.is("seven at once are seven", y.cell(0, 0), z.cell(0, 0));
    }

    private void minutesBad() {
        e.says("P2", ". BAD;");
        HalfBoats x = new HalfBoats();
        int[] no = {MIN, -200, -1, 0, 201, 999, MAX};
        for (int n : no) {
            e.bad("minutes(" + n + ")", x.minutes(n));
        }
        e.is("NOW", x.many(0), 0);
    }

    private void minutesState() {
        e.says("P2", "STATE: it would be above 999.");
        HalfBoats x = late(800);
        x.set(0, 1, 9);
        e.state("to 1000", x.minutes(200));
        e.is("NOW stays", x.many(0), 800);
        e.is("WATER stays", x.cell(0, 0), 0);
        e.is("to 999", x.minutes(199), 999);
        e.state("one more", x.minutes(1));
        e.state("200 more", x.minutes(200));
        e.is("NOW stays", x.many(0), 999);
    }

    private void set() {
        e.says("P3", "Of a CELL: what = 0 ROOM, 1 HOLE, 2 PUMP becomes v (WATER is ROOM at most then): what it was.");
        HalfBoats x = flooded(64, 9);
        e.is("ROOM 37", x.set(6, 0, 37), 100);
        e.is("36 tons stay", x.cell(6, 0), 36);
        e.is("ROOM 36", x.set(6, 0, 36), 37);
        e.is("36 tons stay", x.cell(6, 0), 36);
        e.is("ROOM 35", x.set(6, 0, 35), 36);
        e.is("35 tons are left", x.cell(6, 0), 35);
        e.is("all WATER", x.many(14), 35);
        e.is("ROOM 10", x.set(6, 0, 10), 35);
        e.is("OUTSIDE goes with it", x.cell(6, 2), 40);
        e.is("ROOM 999", x.set(6, 0, 999), 10);
        e.is("WATER doesn't come back", x.cell(6, 0), 10);
        e.is("HOLE", x.set(6, 1, 4), 0);
        e.is("PUMP", x.set(6, 2, 5), 0);
        e.is("HOLE was", x.set(6, 1, 0), 4);
        e.is("PUMP was", x.set(6, 2, 0), 5);
        e.is("WATER stays", x.cell(6, 0), 10);
        HalfBoats y = Look.sunk();
        y.set(0, 0, 10);
        e.is("SUNK, too", y.cell(0, 0), 10);
        e.is("and SUNK she is still", y.sunk(), 4);
    }

    private void setBad() {
        e.says("P3", ". BAD.");
        HalfBoats x = new HalfBoats();
        int[][] no = {{-1, 0, 50}, {8, 0, 50}, {MIN, 0, 50}, {MAX, 0, 50}, {0, -1, 5}, {0, 3, 5}, {0, MIN, 5}, {0, MAX, 5}, {0, 0, 9}, {0, 0, 1000},
            {0, 0, -1}, {0, 0, MIN}, {0, 0, MAX}, {0, 1, -1}, {0, 1, 10}, {0, 1, MIN}, {0, 1, MAX}, {0, 2, -1}, {0, 2, 10}, {0, 2, MIN}, {0, 2, MAX}};
        for (int[] n : no) {
            e.bad("set(" + n[0] + ", " + n[1] + ", " + n[2] + ")", x.set(n[0], n[1], n[2]));
        }
    }

    private void wall() {
        e.says("P4", "HEIGHT of a WALL: what it was.");
        HalfBoats x = new HalfBoats();
        for (int w = 0; w < 7; w++) {
            e.is("0", x.wall(w, 0), 100);
            e.is("100", x.wall(w, 100), 0);
            e.is("w", x.wall(w, w), 100);
        }
        for (int w = 0; w < 7; w++) {
            e.is("each its own", x.wall(w, 50), w);
        }
    }

    private void wallBad() {
        e.says("P4", ". BAD.");
        HalfBoats x = new HalfBoats();
        int[][] no = {{-1, 0}, {7, 0}, {MIN, 0}, {MAX, 0}, {0, -1}, {0, 101}, {6, MIN}, {6, MAX}};
        for (int[] n : no) {
            e.bad("wall(" + n[0] + ", " + n[1] + ")", x.wall(n[0], n[1]));
        }
    }

    private void door() {
        e.says("P5", "A DOOR is open, or shut: 1 if it was open, else 0.");
        HalfBoats x = new HalfBoats();
        for (int w = 0; w < 7; w++) {
            e.is("shut, is shut", x.door(w, false), 0);
            e.is("shut, is open", x.door(w, true), 0);
            e.is("open, is open", x.door(w, true), 1);
            e.is("open, is shut", x.door(w, false), 1);
            e.is("shut", x.door(w, w % 2 == 0), 0);
        }
        for (int w = 0; w < 7; w++) {
            e.is("each its own", x.door(w, false), w % 2 == 0 ? 1 : 0);
        }
    }

    private void doorBad() {
        e.says("P5", ". BAD.");
        HalfBoats x = new HalfBoats();
        int[] no = {MIN, -1, 7, MAX};
        for (int w : no) {
            e.bad("door(" + w + ", true)", x.door(w, true));
            e.bad("door(" + w + ", false)", x.door(w, false));
        }
    }

    private void cell() {
        e.says("P6", "Of a CELL: what = 0 WATER, 1 LEVEL, 2 OUTSIDE.");
        HalfBoats x = new HalfBoats();
        x.set(7, 0, 50);
        flood(x, 128, 9);
        e.is("WATER", x.cell(7, 0), 36);
        e.is("LEVEL", x.cell(7, 1), 72);
        e.is("OUTSIDE", x.cell(7, 2), 43);
        e.is("WATER of CELL 0", x.cell(0, 0), 0);
        e.is("LEVEL of CELL 0", x.cell(0, 1), 0);
        e.is("OUTSIDE of CELL 0", x.cell(0, 2), 39);
    }

    private void cellBad() {
        e.says("P6", ". BAD.");
        HalfBoats x = new HalfBoats();
        int[][] no = {{-1, 0}, {8, 0}, {MIN, 0}, {MAX, 0}, {0, -1}, {0, 3}, {7, MIN}, {7, MAX}};
        for (int[] n : no) {
            e.bad("cell(" + n[0] + ", " + n[1] + ")", x.cell(n[0], n[1]));
        }
    }

    private void sunk() {
        e.says("P7", "SUNK since which MINUTE.");
        HalfBoats x = Look.sunk();
        e.is("since 4", x.sunk(), 4);
        x.minutes(200);
        e.is("since 4, later", x.sunk(), 4);
        HalfBoats y = late(995);
        for (int i = 0; i < 4; i++) {
            y.set(i, 0, 999);
            y.set(i, 1, 9);
        }
        y.minutes(4);
        e.is("since 999", y.sunk(), 999);
    }

    private void sunkNone() {
        e.says("P7", "NONE.");
        e.none("new", new HalfBoats().sunk());
        e.none("dry in MINUTE 999", late(999).sunk());
        HalfBoats x = flooded(255, 9);
        e.none("wet", x.sunk());
    }

    private void sinks() {
        e.says("P8", "In which MINUTE she will be SUNK, if all stays as it is, and a WALL's HEIGHT (-1: none's) is another one.");
        // CELL 0 alone is too small; over WALL 0 into 999 tons of CELL 1 there comes enough.
        HalfBoats x = new HalfBoats();
        for (int i = 0; i < 4; i++) {
            x.set(i, 0, i == 0 ? 100 : 999);
            x.set(i, 1, i == 0 ? 9 : 0);
        }
        x.wall(1, 0);
        x.wall(2, 0);
        e.none("as it is", x.sinks(-1, 0));
        e.none("WALL 3 is no other", x.sinks(3, 0));
        int when = x.sinks(0, 0);
        e.is("some time", when > 0 ? 1 : 0, 1);
        e.is("HEIGHT stays", x.wall(0, 0), 100);
        e.is("now as it is", x.sinks(-1, 55), when);
        e.none("the WALL at 100 instead", x.sinks(0, 100));
        x.minutes(200);
        if (when > 200) {
            x.minutes(200);
        }
        e.is("and so it is", x.sunk(), when);
    }

    private void sinksBad() {
        e.says("P8", "BAD: no such WALL, or a HEIGHT that can't be (with -1, too);");
        HalfBoats x = new HalfBoats();
        int[][] no = {{-2, 0}, {7, 0}, {MIN, 0}, {MAX, 0}, {0, -1}, {0, 101}, {6, MIN}, {6, MAX}, {-1, -1}, {-1, 101}, {-1, MIN}, {-1, MAX}};
        for (int[] n : no) {
            e.bad("sinks(" + n[0] + ", " + n[1] + ")", x.sinks(n[0], n[1]));
        }
    }

    private void sinksNone() {
        e.says("P8", "NONE: not by MINUTE 999;");
        e.none("never", new HalfBoats().sinks(-1, 0));
        e.none("never, WALL 6", new HalfBoats().sinks(6, 100));
        for (int now = 994; now <= 999; now++) {
            HalfBoats x = late(now);
            for (int i = 0; i < 4; i++) {
                x.set(i, 0, 999);
                x.set(i, 1, 9);
            }
            e.is("four MINUTES behind " + now, x.sinks(-1, 0), now + 4 <= 999 ? now + 4 : HalfBoats.NONE);
        }
    }

    private void sinksState() {
        e.says("P8", "STATE: she is.");
        HalfBoats x = Look.sunk();
        e.state("as it is", x.sinks(-1, 0));
        e.state("WALL 0", x.sinks(0, 100));
        HalfBoats y = new HalfBoats();
        for (int i = 0; i < 4; i++) {
            y.set(i, 0, 999);
            y.set(i, 1, 9);
        }
        y.minutes(3);
        e.is("not yet", y.sinks(-1, 0), 4);
        y.minutes(1);
        e.state("now", y.sinks(-1, 0));
    }
}
