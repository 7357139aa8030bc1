/** Promises 1 to 10: the hull. */
public final class HullTest {
    private static final Due due = new Due("HullTest");

    public static void main(String[] args) {
        newObject();
        minutes();
        set();
        wallsAndDoors();
        cell();
        sunk();
        sinks();
        soundings();
        explained();
        due.end();
    }

    private static void newObject() {
        HalfBoats x = new HalfBoats();
        for (int what = 0; what <= 15; what++) {
            due.is("new: many(" + what + ")", x.many(what), 0);
        }
        for (int i = 0; i < 8; i++) {
            due.is("new: water", x.cell(i, 0), 0);
            due.is("new: level", x.cell(i, 1), 0);
            due.is("new: outside", x.cell(i, 2), 40);
            due.is("new: room", x.set(i, 0, 100), 100);
            due.is("new: hole", x.set(i, 1, 0), 0);
            due.is("new: pump", x.set(i, 2, 0), 0);
        }
        for (int i = 0; i < 7; i++) {
            due.is("new: height", x.wall(i, 100), 100);
            due.is("new: door", x.door(i, false), 0);
        }
        due.is("new: sunk", x.sunk(), HalfBoats.NONE);
        due.is("new: ready", x.ready(10), 10);
        due.is("new: again", x.again(), HalfBoats.NONE);
        due.is("new: row", x.row(0, 0), -9);
        due.is("new: trace", x.trace(0), HalfBoats.NONE);
        due.is("new: taken", x.taken(0, 0), -11);
        due.is("new: put", x.put(0, 0, 0), -11);
    }

    private static void minutes() {
        HalfBoats x = new HalfBoats();
        due.is("minutes(0)", x.minutes(0), HalfBoats.BAD);
        due.is("minutes(-1)", x.minutes(-1), HalfBoats.BAD);
        due.is("minutes(201)", x.minutes(201), HalfBoats.BAD);
        due.is("minutes(max)", x.minutes(Integer.MAX_VALUE), HalfBoats.BAD);
        due.is("minutes(1)", x.minutes(1), 1);
        for (int i = 1; i < 5; i++) {
            due.is("minutes(200)", x.minutes(200), 1 + 200 * i);
        }
        due.is("minutes(199) to 1000", x.minutes(199), HalfBoats.STATE);
        due.is("NOW is as it was", x.many(0), 801);
        due.is("minutes(198) to 999", x.minutes(198), 999);
        due.is("minutes(1) behind 999", x.minutes(1), HalfBoats.STATE);
        due.is("BAD ahead of STATE", x.minutes(201), HalfBoats.BAD);
    }

    private static void set() {
        HalfBoats x = new HalfBoats();
        int[][] bad = {{-1, 0, 50}, {8, 0, 50}, {0, -1, 5}, {0, 3, 5}, {0, 0, 9}, {0, 0, 1000}, {0, 1, -1},
            {0, 1, 10}, {0, 2, -1}, {0, 2, 10}};
        for (int[] b : bad) {
            due.is("set BAD", x.set(b[0], b[1], b[2]), HalfBoats.BAD);
        }
        due.is("ROOM 10", x.set(7, 0, 10), 100);
        due.is("ROOM 999", x.set(7, 0, 999), 10);
        due.is("ROOM back", x.set(7, 0, 100), 999);
        due.is("HOLE", x.set(7, 1, 9), 0);
        due.is("HOLE", x.set(7, 1, 5), 9);
        due.is("PUMP", x.set(7, 2, 9), 0);
        due.is("PUMP", x.set(7, 2, 0), 9);
        x.minutes(1);
        due.is("5 * 40 / 10", x.cell(7, 0), 20);
        x.set(7, 0, 15);
        due.is("WATER is ROOM at most", x.cell(7, 0), 15);
        x.set(7, 0, 150);
        due.is("and stays less", x.cell(7, 0), 15);
        due.is("LEVEL by ROOM", x.cell(7, 1), 10);
    }

    private static void wallsAndDoors() {
        HalfBoats x = new HalfBoats();
        due.is("wall -1", x.wall(-1, 5), HalfBoats.BAD);
        due.is("wall 7", x.wall(7, 5), HalfBoats.BAD);
        due.is("height -1", x.wall(0, -1), HalfBoats.BAD);
        due.is("height 101", x.wall(0, 101), HalfBoats.BAD);
        due.is("height 0", x.wall(6, 0), 100);
        due.is("height 100", x.wall(6, 100), 0);
        due.is("door -1", x.door(-1, true), HalfBoats.BAD);
        due.is("door 7", x.door(7, true), HalfBoats.BAD);
        due.is("door", x.door(6, true), 0);
        due.is("door", x.door(6, true), 1);
        due.is("door", x.door(6, false), 1);
        due.is("door", x.door(6, false), 0);
        // 36 tons in CELL 0; over a sill of 20: (36 - 20) / 4; by an open door 36 / 4; over 36: none.
        for (int sill = 0; sill < 3; sill++) {
            HalfBoats y = new HalfBoats();
            y.set(0, 1, 9);
            y.minutes(1);
            y.set(0, 1, 0);
            y.wall(0, sill == 0 ? 20 : sill == 1 ? 100 : 36);
            y.door(0, sill == 1);
            y.minutes(1);
            int over = sill == 0 ? 4 : sill == 1 ? 9 : 0;
            due.is("over the wall", y.cell(1, 0), over);
            due.is("from the other", y.cell(0, 0), 36 - over);
        }
        // Backwards as well, with the lesser LEVEL above the sill: 36 and 8: (36 - 8) / 4.
        HalfBoats y = new HalfBoats();
        y.set(3, 1, 9);
        y.set(2, 1, 2);
        y.minutes(1);
        due.is("lesser", y.cell(2, 0), 8);
        y.set(3, 1, 0);
        y.set(2, 1, 0);
        y.wall(2, 5);
        y.minutes(1);
        due.is("to the lesser", y.cell(2, 0), 15);
        due.is("from the greater", y.cell(3, 0), 29);
    }

    private static void cell() {
        HalfBoats x = new HalfBoats();
        due.is("cell -1", x.cell(-1, 0), HalfBoats.BAD);
        due.is("cell 8", x.cell(8, 0), HalfBoats.BAD);
        due.is("what -1", x.cell(0, -1), HalfBoats.BAD);
        due.is("what 3", x.cell(0, 3), HalfBoats.BAD);
        x.set(7, 0, 200);
        x.set(7, 1, 9);
        x.minutes(1);
        // 36 tons: DEPTH 41, TILT -252 / 100 = -2.
        due.is("WATER", x.cell(7, 0), 36);
        due.is("LEVEL", x.cell(7, 1), 18);
        due.is("OUTSIDE 7", x.cell(7, 2), 43);
        due.is("OUTSIDE 4: 41 and 2 / 7", x.cell(4, 2), 41);
        due.is("OUTSIDE 3: 41 less 2 / 7", x.cell(3, 2), 41);
        due.is("OUTSIDE 2: 41 less 6 / 7", x.cell(2, 2), 41);
        due.is("OUTSIDE 1: 41 less 10 / 7", x.cell(1, 2), 40);
        due.is("OUTSIDE 0", x.cell(0, 2), 39);
        x.set(7, 2, 9);
        x.minutes(1);
        // 9 * (43 - 18) / 10 = 22 in, 9 out.
        due.is("PUMP goes out", x.cell(7, 0), 49);
        x.set(7, 1, 0);
        x.minutes(6);
        due.is("WATER is 0 at least", x.cell(7, 0), 0);
    }

    private static void sunk() {
        HalfBoats x = sinking();
        due.is("sinks", x.sinks(-1, 0), 4);
        x.minutes(3);
        due.is("not yet", x.sunk(), HalfBoats.NONE);
        x.minutes(1);
        due.is("sunk", x.sunk(), 4);
        int water = x.many(14);
        x.minutes(1);
        due.is("WATER stays", x.many(14), water);
        due.is("NOW goes on", x.many(0), 5);
        due.is("sunk stays", x.sunk(), 4);
        due.is("OUTSIDE is 100 at most", x.cell(0, 2), 100);
        due.is("sinks: she is", x.sinks(-1, 0), HalfBoats.STATE);
        due.is("sinks: BAD first", x.sinks(-1, 101), HalfBoats.BAD);
        HalfBoats y = new HalfBoats();
        due.is("dry never sinks", y.sinks(0, 0), HalfBoats.NONE);
    }

    private static HalfBoats sinking() {
        HalfBoats x = new HalfBoats();
        for (int i = 0; i < 4; i++) {
            x.set(i, 0, 999);
            x.set(i, 1, 9);
        }
        // All WATER is 144, 310, 504, 732; OUTSIDE of CELL 0 is 52, 67, 85, 106.
        return x;
    }

    private static void sinks() {
        HalfBoats x = new HalfBoats();
        due.is("wall -2", x.sinks(-2, 5), HalfBoats.BAD);
        due.is("wall 7", x.sinks(7, 5), HalfBoats.BAD);
        due.is("height -1", x.sinks(0, -1), HalfBoats.BAD);
        due.is("height 101", x.sinks(0, 101), HalfBoats.BAD);
        due.is("height -1 with none", x.sinks(-1, -1), HalfBoats.BAD);
        x.set(0, 1, 9);
        x.set(0, 0, 400);
        x.set(1, 0, 400);
        int free = x.sinks(-1, 100);
        int low = x.sinks(0, 0);
        due.is("a wall matters or not, the state stays", x.cell(0, 0), 0);
        x.wall(0, 0);
        due.is("as if the wall were so", x.sinks(-1, 7), low);
        due.is("as if it were high", x.sinks(0, 100), free);
        HalfBoats late = new HalfBoats();
        for (int i = 0; i < 5; i++) {
            late.minutes(199);
        }
        for (int i = 0; i < 4; i++) {
            late.set(i, 0, 999);
            late.set(i, 1, 9);
        }
        due.is("in MINUTE 999", late.sinks(-1, 0), 999);
        late.keep();
        for (int i = 0; i < 4; i++) {
            late.set(i, 1, 0);
        }
        late.minutes(1);
        for (int i = 0; i < 4; i++) {
            late.set(i, 1, 9);
        }
        due.is("not by MINUTE 999", late.sinks(-1, 0), HalfBoats.NONE);
        late.minutes(3);
        due.is("not in MINUTE 999", late.sinks(-1, 0), HalfBoats.NONE);
        late.again();
        late.minutes(4);
        due.is("sunk in MINUTE 999", late.sunk(), 999);
        HalfBoats y = sinking();
        int when = y.sinks(-1, 0);
        for (int i = 1; i <= when; i++) {
            due.is("sinks in the same MINUTE whenever asked", y.sinks(3, 100), when);
            y.minutes(1);
        }
        due.is("then she is", y.sunk(), when);
    }

    private static void soundings() {
        HalfBoats x = new HalfBoats();
        int[][] bad = {{-1, 0, 0, 0}, {8, 0, 0, 0}, {0, -1, 0, 0}, {0, 61, 0, 0}, {0, 0, -1, 0}, {0, 0, 0, 1000},
            {0, 0, 1000, 1000}, {0, 0, 2, 1}};
        for (int[] b : bad) {
            due.is("sounding BAD", x.sounding(b[0], b[1], b[2], b[3]), HalfBoats.BAD);
        }
        for (int i = 0; i < 16; i++) {
            due.is("sounding", x.sounding(7, 60 - i, 0, 999), i);
        }
        due.is("sounding FULL", x.sounding(0, 0, 0, 0), HalfBoats.FULL);
        due.is("BAD ahead of FULL", x.sounding(8, 0, 0, 0), HalfBoats.BAD);
        due.is("many(1)", x.many(1), 16);
    }

    private static void explainedAndSunk() {
        HalfBoats x = sinking();
        x.minutes(4);
        int[] water = new int[4];
        for (int i = 0; i < 4; i++) {
            water[i] = x.cell(i, 0);
            x.sounding(i, 4, water[i], water[i]);
        }
        due.is("SUNK herself", x.sunk(), 4);
        due.is("the four holes", x.explained(0), 15);
        due.is("their rate", x.explained(1), 9);
        x.sounding(2, 60, water[2], water[2]);
        due.is("WATER stays as it is from MINUTE 4 on", x.explained(0), 15);
        x.sounding(2, 59, water[2] + 1, 999);
        due.is("and is no more", x.explained(0), HalfBoats.NONE);
    }

    private static void explained() {
        HalfBoats x = new HalfBoats();
        due.is("what -1", x.explained(-1), HalfBoats.BAD);
        due.is("what 2", x.explained(2), HalfBoats.BAD);
        due.is("no SOUNDINGS", x.explained(0), 0);
        due.is("no SOUNDINGS", x.explained(1), 1);
        x.sounding(4, 1, 0, 11);
        due.is("dry explains", x.explained(0), 0);
        x.sounding(4, 1, 5, 30);
        due.is("one hole", x.explained(0), 16);
        due.is("2 * 40 / 10 is 8", x.explained(1), 2);
        x.set(4, 2, 4);
        due.is("with the PUMP 12 less 4", x.explained(1), 3);
        x.sounding(3, 2, 1, 999);
        due.is("two holes", x.explained(0), 24);
        x.door(3, true);
        due.is("by the door: one hole", x.explained(0), 16);
        x.door(3, false);
        due.is("the door shut again", x.explained(0), 24);
        x.wall(3, 3);
        due.is("over the wall: one hole", x.explained(0), 16);
        x.keep();
        x.sounding(4, 0, 1, 1);
        due.is("all is dry in MINUTE 0", x.explained(0), HalfBoats.NONE);
        due.is("no rate", x.explained(1), HalfBoats.NONE);
        due.is("BAD ahead of NONE", x.explained(2), HalfBoats.BAD);
        x.again();
        due.is("again", x.explained(0), 16);
        explainedAndSunk();
        HalfBoats y = new HalfBoats();
        y.sounding(0, 1, 36, 36);
        y.sounding(7, 1, 36, 36);
        due.is("bow and stern", y.explained(0), 129);
        due.is("rate 9", y.explained(1), 9);
        y.set(0, 0, 30);
        due.is("no ROOM for it", y.explained(0), HalfBoats.NONE);
        HalfBoats w = new HalfBoats();
        w.sounding(0, 1, 37, 999);
        due.is("more than rate 9 gives", w.explained(0), HalfBoats.NONE);
        HalfBoats z = new HalfBoats();
        z.sounding(4, 60, 1, 999);
        due.is("in MINUTE 60", z.explained(0), 16);
        for (int i = 0; i < 8; i++) {
            z.sounding(i, 1, 1, 999);
        }
        due.is("all CELLS", z.explained(0), 255);
    }
}
