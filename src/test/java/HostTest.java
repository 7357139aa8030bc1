/** Promises 43 to 51: the host. */
public final class HostTest {
    private static final Due due = new Due("HostTest");

    public static void main(String[] args) {
        sheets();
        items();
        sound();
        soundFull();
        shelves();
        taken();
        gone();
        acts();
        traces();
        many();
        due.end();
    }

    private static void sheets() {
        HalfBoats x = new HalfBoats();
        due.is("sheet -1", x.sheet(-1, 0, 1), HalfBoats.BAD);
        due.is("sheet 4", x.sheet(4, 0, 1), HalfBoats.BAD);
        due.is("sort -2", x.sheet(0, -2, 1), HalfBoats.BAD);
        due.is("sort 5", x.sheet(0, 5, 1), HalfBoats.BAD);
        due.is("n 41", x.sheet(0, 0, 41), HalfBoats.BAD);
        due.is("n -1", x.sheet(0, 0, -1), -14);
        due.is("BAD ahead of -14", x.sheet(0, 5, -1), HalfBoats.BAD);
        due.is("nothing changed", x.item(0, 0, 0), -11);
        for (int sort = 0; sort <= 4; sort++) {
            due.is("sheet", x.sheet(0, sort, 40), 1);
            due.is("all 0", x.item(0, sort, 39), 0);
            due.is("all 0", x.item(0, sort, 0), 0);
            due.is("put", x.put(0, 39, 300), 1);
            due.is("put", x.put(0, 0, 300), 1);
        }
        due.is("n 0", x.sheet(0, 4, 0), 1);
        due.is("no item", x.item(0, 4, 0), -12);
        due.is("missing", x.sheet(0, -1, 0), 1);
        due.is("missing", x.item(0, 4, 0), -11);
        due.is("missing, n above 40", x.sheet(0, -1, 41), HalfBoats.BAD);
        due.is("missing has no size", x.sheet(0, -1, -1), 1);
    }

    private static void items() {
        HalfBoats x = new HalfBoats();
        int[] values = {0, 1, -1, 127, 128, 255, 256, 32767, 32768, 65536, Integer.MAX_VALUE, Integer.MIN_VALUE};
        for (int sort = 0; sort <= 4; sort++) {
            x.sheet(1, sort, 12);
            for (int i = 0; i < 12; i++) {
                int v = values[i];
                int want = sort == 0 ? (byte) v : sort == 1 ? (short) v : sort == 4 ? (v == 0 ? 0 : 1) : v;
                due.is("put", x.put(1, i, v), 1);
                due.is("item", x.item(1, sort, i), want);
            }
            due.is("place -1", x.item(1, sort, -1), -12);
            due.is("place 12", x.item(1, sort, 12), -12);
            due.is("put at -1", x.put(1, -1, 0), -12);
            due.is("put at 12", x.put(1, 12, 0), -12);
            for (int as = 0; as <= 4; as++) {
                if (as != sort) {
                    due.is("another sort", x.item(1, as, 0), -13);
                    due.is("-13 ahead of -12", x.item(1, as, 99), -13);
                }
            }
        }
        due.is("put: no such SHEET", x.put(4, 0, 0), HalfBoats.BAD);
        due.is("put: no such SHEET", x.put(-1, 0, 0), HalfBoats.BAD);
        due.is("put: missing", x.put(2, 99, 0), -11);
        due.is("item: no such SHEET", x.item(4, 0, 0), HalfBoats.BAD);
        due.is("item: no such SHEET", x.item(-1, 0, 0), HalfBoats.BAD);
        due.is("item: no such sort", x.item(1, -1, 0), HalfBoats.BAD);
        due.is("item: no such sort", x.item(1, 5, 0), HalfBoats.BAD);
        due.is("item: missing", x.item(2, 0, 99), -11);
    }

    private static void sound() {
        HalfBoats x = new HalfBoats();
        x.sheet(0, 0, 4);
        x.put(0, 0, 36);
        x.put(0, 1, -1);
        x.put(0, 2, 36);
        int[][] bad = {{-1, 0, 0, 0, 1}, {8, 0, 0, 0, 1}, {0, -1, 0, 0, 1}, {0, 61, 0, 0, 1}, {0, 0, -1, 0, 1}, {0, 0, 4, 0, 1},
            {0, 0, 0, 0, -1}, {0, 0, 0, 0, 10}};
        for (int[] b : bad) {
            due.is("sound BAD", x.sound(b[0], b[1], b[2], b[3], b[4]), HalfBoats.BAD);
        }
        x.sheet(1, 1, 4);
        due.is("shorts", x.sound(0, 0, 1, 0, 1), -13);
        due.is("shorts, no item", x.sound(0, 0, 1, 9, 0), -13);
        due.is("missing", x.sound(0, 0, 2, 0, 1), -11);
        due.is("missing, no item asked", x.sound(0, 0, 2, 0, 0), -11);
        due.is("BAD ahead of missing", x.sound(8, 0, 2, 0, 0), HalfBoats.BAD);
        x.sheet(3, 0, 0);
        due.is("a row of none, no item", x.sound(0, 0, 3, 0, 0), 0);
        x.sheet(3, -1, 0);
        due.is("missing again, no item", x.sound(0, 0, 3, 0, 0), -11);
        due.is("no item", x.sound(0, 0, 0, 99, 0), 0);
        due.is("at -1", x.sound(0, 0, 0, -1, 1), -12);
        due.is("far outside", x.sound(0, 0, 0, Integer.MAX_VALUE, 9), -12);
        due.is("none came", x.many(1), 0);
        due.is("one left out", x.sound(5, 1, 0, 0, 2), 1);
        due.is("that is 36 in MINUTE 1", x.explained(0), 32);
        due.is("rate", x.explained(1), 9);
        due.is("MINUTE 61 left out", x.sound(5, 60, 0, 2, 2), 1);
        due.is("what stood ahead came", x.sound(6, 0, 0, 2, 3), -12);
        due.is("many(1)", x.many(1), 4);
        due.is("outside of what is left out, too", x.sound(6, 60, 0, 3, 2), -12);
    }

    private static void soundFull() {
        HalfBoats x = new HalfBoats();
        x.sheet(0, 0, 9);
        x.put(0, 8, -3);
        due.is("nine less one", x.sound(0, 0, 0, 0, 9), 8);
        due.is("then eight", x.sound(0, 0, 0, 0, 8), 8);
        due.is("FULL", x.sound(0, 0, 0, 0, 1), HalfBoats.FULL);
        due.is("no SOUNDING is left out", x.sound(0, 0, 0, 8, 1), 0);
        due.is("left out by its MINUTE", x.sound(0, 60, 0, 8, 1), 0);
        due.is("-12 of the first", x.sound(0, 0, 0, 9, 1), -12);
        due.is("many(1)", x.many(1), 16);
        HalfBoats y = new HalfBoats();
        y.sheet(0, 0, 9);
        y.sound(0, 0, 0, 0, 9);
        due.is("FULL behind seven", y.sound(0, 0, 0, 0, 8), HalfBoats.FULL);
        due.is("seven came", y.many(1), 16);
    }

    private static void shelves() {
        HalfBoats x = new HalfBoats();
        due.is("shelf -1", x.shelf(-1, 6, 0), HalfBoats.BAD);
        due.is("shelf 4", x.shelf(4, 6, 0), HalfBoats.BAD);
        due.is("what -1", x.shelf(0, -1, 0), HalfBoats.BAD);
        due.is("what 7", x.shelf(0, 7, 0), HalfBoats.BAD);
        int[] there = {8, 0, 0, 0, 0, 4};
        for (int what = 0; what <= 5; what++) {
            due.is("thing -1", x.shelf(0, what, -1), HalfBoats.BAD);
            due.is("no such thing", x.shelf(0, what, there[what]), HalfBoats.BAD);
        }
        due.is("nothing", x.shelf(0, 6, 99), 1);
        x.boat(5, 0, 0, 0);
        x.call(0);
        x.light(0, 0, 0);
        x.sworn(0);
        for (int what = 0; what <= 4; what++) {
            due.is("shelf", x.shelf(3, what, 0), 1);
            due.is("it is there", x.taken(3, 0), 0);
        }
        due.is("a missing row", x.shelf(3, 5, 0), 1);
        due.is("is nothing", x.taken(3, 0), -11);
        x.shelf(3, 0, 1);
        due.is("nothing again", x.shelf(3, 6, -5), 1);
        due.is("is nothing", x.taken(3, 0), -11);
    }

    private static void taken() {
        HalfBoats x = new HalfBoats();
        due.is("shelf -1", x.taken(-1, 0), HalfBoats.BAD);
        due.is("shelf 4", x.taken(4, 0), HalfBoats.BAD);
        int[] bad = {-1, 7, 9, 15};
        for (int as : bad) {
            due.is("as " + as, x.taken(0, as), HalfBoats.BAD);
        }
        for (int i = 0; i < 3; i++) {
            x.boat(5, 0, 0, i == 2 ? 1 : 0);
            x.call(0);
            x.light(0, 0, 0);
            x.sworn(0);
        }
        // what, number, and the kinds that it can be taken for
        int[][] things = {{0, 5, 0b0000011}, {1, 1, 0b0000101}, {1, 2, 0b0001101}, {2, 2, 0b0010001}, {3, 1, 0b0110001}, {4, 2, 0b1000001}};
        for (int[] t : things) {
            x.shelf(1, t[0], t[1]);
            for (int as = 0; as <= 6; as++) {
                due.is("what " + t[0] + " as " + as, x.taken(1, as), (t[2] >> as & 1) == 1 ? t[1] : -13);
            }
            for (int as = 10; as <= 14; as++) {
                due.is("what " + t[0] + " as " + as, x.taken(1, as), -13);
            }
        }
        for (int sort = 0; sort <= 4; sort++) {
            x.sheet(2, sort, 30 + sort);
            x.shelf(2, 5, 2);
            for (int as = 0; as <= 14; as++) {
                int want = as >= 7 && as <= 9 ? HalfBoats.BAD : as == 10 + sort ? 30 + sort : -13;
                due.is("row of " + sort + " as " + as, x.taken(2, as), want);
            }
        }
        due.is("nothing as a row", x.taken(3, 12), -11);
        x.sheet(2, 0, 3);
        due.is("the row stays, as the SHEET becomes another", x.taken(2, 14), 34);
    }

    private static void gone() {
        HalfBoats x = new HalfBoats();
        x.keep();
        x.boat(5, 0, 0, 1);
        x.shelf(0, 1, 0);
        x.shelf(1, 0, 7);
        due.is("there", x.taken(0, 3), 0);
        x.again();
        due.is("not there any more", x.taken(0, 3), -11);
        due.is("no act", x.act(0, 0, 1), 0);
        due.is("no trace", x.many(13), 0);
        due.is("a CELL is", x.taken(1, 1), 7);
    }

    private static HalfBoats withThings() {
        HalfBoats x = new HalfBoats();
        x.boat(5, 0, 0, 0);
        x.boat(7, 0, 0, 1);
        x.call(9);
        x.light(11, 0, 0);
        x.sworn(0);
        x.sworn(1);
        x.sworn(3);
        return x;
    }

    private static void acts() {
        HalfBoats x = withThings();
        // what, number, then fills, carries, fits, tells of 100
        int[][] things = {
            {0, 2, 160, 318, 1 + 61, 318 ^ 100},
            {1, 0, 105, 215, 20, 215 ^ 5},
            {1, 1, 321, 648, 16, (648 ^ 7) - 1},
            {2, 0, 109, 218, 11, (218 ^ 9) ^ 109},
            {3, 0, 111, -222, 9, (-222 ^ 11) ^ 111},
            {4, 2, 103, 204 + 3, 200, 207 ^ 3}};
        for (int[] t : things) {
            x.shelf(0, t[0], t[1]);
            for (int act = 0; act <= 3; act++) {
                due.is("what " + t[0] + " " + t[1] + ", act " + act, x.act(0, act, 100), t[2 + act]);
            }
        }
        x.shelf(0, 4, 0);
        due.is("a and n the same", x.act(0, 2, 100), -15);
        due.is("bodies that began", x.many(13), 2);
        due.is("70", x.trace(0), 70);
        due.is("12", x.trace(1), 12);
        x.shelf(0, 4, 1);
        due.is("leans 1, number 1", x.act(0, 2, 100), -15);
        x.shelf(0, 1, 0);
        due.is("wraps", x.act(0, 0, Integer.MAX_VALUE), Integer.MIN_VALUE + 4);
        due.is("the rest away", x.act(0, 2, -9), -1);
        HalfBoats y = new HalfBoats();
        y.call(0);
        y.call(0);
        y.shelf(0, 2, 1);
        due.is("by -1", y.act(0, 2, Integer.MIN_VALUE), Integer.MIN_VALUE);
        x.set(3, 0, 10);
        x.shelf(0, 0, 3);
        due.is("the ROOM as it is", x.act(0, 0, 0), -30);
        x.set(3, 0, 50);
        due.is("the ROOM as it is", x.act(0, 0, 0), 10);
    }

    private static void traces() {
        HalfBoats x = withThings();
        int[][] cases = {{0, 2, 0, 20, 10}, {0, 2, 1, 11, 20, 10}, {0, 2, 2, 21, 12, 20, 10}, {0, 2, 3, 13, 11, 20, 10},
            {1, 0, 0, 10}, {1, 0, 1, 30, 11, 10}, {1, 0, 2, 12}, {1, 0, 3, 13, 30, 11, 10},
            {1, 1, 0, 40, 10}, {1, 1, 1, 30, 11, 40, 10}, {1, 1, 2, 12}, {1, 1, 3, 41, 13, 30, 11, 40, 10},
            {2, 0, 0, 10}, {2, 0, 1, 11, 10}, {2, 0, 2, 12}, {2, 0, 3, 50, 13, 11, 10, 10},
            {3, 0, 0, 10}, {3, 0, 1, 60, 11, 10}, {3, 0, 2, 12}, {3, 0, 3, 50, 13, 60, 11, 10, 10},
            {4, 2, 0, 10}, {4, 2, 1, 71, 11, 10, 10}, {4, 2, 2, 70, 12}, {4, 2, 3, 13, 71, 11, 10, 10}};
        for (int[] c : cases) {
            x.shelf(2, c[0], c[1]);
            x.act(2, c[2], 5);
            due.is("many(13)", x.many(13), c.length - 3);
            for (int i = 3; i < c.length; i++) {
                due.is("trace " + c[0] + " " + c[1] + " " + c[2] + ", " + (i - 3), x.trace(i - 3), c[i]);
            }
            due.is("trace -1", x.trace(-1), HalfBoats.NONE);
            due.is("trace behind the last", x.trace(c.length - 3), HalfBoats.NONE);
        }
        int[][] none = {{-1, 0}, {4, 0}, {2, -1}, {2, 4}, {3, 0}, {1, 0}};
        x.sheet(0, 0, 3);
        x.shelf(1, 5, 0);
        for (int[] n : none) {
            x.act(2, 0, 5);
            due.is("a trace", x.many(13), 1);
            due.is("no act", x.act(n[0], n[1], 5), 0);
            due.is("no trace", x.many(13), 0);
        }
    }

    private static void many() {
        HalfBoats x = new HalfBoats();
        due.is("many(-1)", x.many(-1), HalfBoats.BAD);
        due.is("many(16)", x.many(16), HalfBoats.BAD);
        x.minutes(3);
        x.sounding(0, 0, 0, 0);
        x.way(0, 1, 1, 0);
        x.way(0, 1, 1, 0);
        x.group(4, 0, 0, 0);
        x.group(5, 0, 0, 0);
        x.group(6, 0, 0, 0);
        x.boat(1, 0, 0, 0);
        x.ship(0, 1, 0, 0);
        x.ship(0, 1, 0, 0);
        x.call(0);
        x.call(0);
        x.call(0);
        x.light(0, 0, 0);
        x.sworn(0);
        x.sworn(0);
        x.read();
        x.leg(1, 1);
        x.leg(1, 1);
        x.seat();
        x.feed(0, 5);
        x.shelf(0, 0, 0);
        x.act(0, 2, 1);
        x.set(0, 1, 9);
        x.set(7, 1, 1);
        x.minutes(1);
        int[] want = {4, 1, 2, 3, 1, 2, 3, 1, 2, 1, 2, 1, 5, 4, 40, 15};
        for (int what = 0; what <= 15; what++) {
            due.is("many(" + what + ")", x.many(what), want[what]);
        }
    }
}
