/** Promises 52 and 53: kept. */
public final class KeptTest {
    private static final Due due = new Due("KeptTest");

    public static void main(String[] args) {
        all();
        notKept();
        stays();
        due.end();
    }

    private static void change(HalfBoats x, int n) {
        x.set(0, 0, 50 + n);
        x.set(0, 1, n);
        x.set(0, 2, n - 1);
        x.wall(0, n);
        x.door(0, n % 2 == 1);
        x.minutes(n);
        x.sounding(0, n, 0, 999);
        x.way(0, 1, n, 0);
        x.group(n, 0, 0, n);
        x.boat(n, 0, n, 1);
        x.ship(n, n, 999, n);
        x.ready(n);
        x.call(n);
        x.light(n, 0, n);
        x.list(0, n);
        x.sworn(0);
        Due.read(x, "seats " + n + " for 1;");
        x.leg(n, n);
    }

    /** What can be asked of all that is kept, without changing it. */
    private static long[] look(HalfBoats x) {
        return new long[] {x.many(0), x.cell(0, 0), x.cell(0, 1), x.cell(0, 2), x.sunk(), x.sinks(-1, 0), x.many(1), x.many(2), x.many(3), x.many(4),
            x.many(5), x.many(6), x.many(7), x.many(8), x.many(9), x.many(10), x.many(14), x.many(15), x.explained(0), x.reach(0, 1), x.can(0),
            x.most(), x.hears(0), x.comes(0), x.mayBe(0), x.names(1), x.standing(999), x.version(0, 1), x.lack(999), x.run(9999, -2)};
    }

    private static void all() {
        HalfBoats x = new HalfBoats();
        due.is("nothing is kept", x.again(), HalfBoats.NONE);
        change(x, 3);
        long[] was = look(x);
        due.is("keep", x.keep(), 1);
        change(x, 5);
        x.takeBack(0);
        due.is("again", x.again(), 1);
        long[] is = look(x);
        for (int i = 0; i < was.length; i++) {
            due.is("kept, " + i, is[i], was[i]);
        }
        due.is("ROOM", x.set(0, 0, 99), 53);
        due.is("HOLE", x.set(0, 1, 0), 3);
        due.is("PUMP", x.set(0, 2, 0), 2);
        due.is("HEIGHT", x.wall(0, 0), 3);
        due.is("DOOR", x.door(0, false), 1);
        due.is("READY", x.ready(0), 3);
        due.is("LIST", x.list(0, 0), 3);
        due.is("taken back anew", x.takeBack(0), 0);
        x.again();
        is = look(x);
        for (int i = 0; i < was.length; i++) {
            due.is("kept once more, " + i, is[i], was[i]);
        }
    }

    private static void notKept() {
        HalfBoats x = new HalfBoats();
        x.group(5, 0, 0, 0);
        x.boat(5, 0, 0, 0);
        x.keep();
        x.seat();
        x.feed(0, 3);
        x.sheet(1, 2, 5);
        x.put(1, 4, 77);
        x.shelf(1, 0, 6);
        x.act(1, 0, 0);
        x.again();
        due.is("ROWS", x.many(11), 1);
        due.is("a ROW", x.row(0, 2), 5);
        due.is("THE TAPE", x.many(12), 3);
        due.is("SHEETS", x.item(1, 2, 4), 77);
        due.is("SHELVES", x.taken(1, 1), 6);
        due.is("THE TRACE", x.trace(0), 20);
    }

    private static void stays() {
        HalfBoats x = new HalfBoats();
        x.minutes(1);
        x.keep();
        x.minutes(1);
        x.keep();
        x.minutes(1);
        x.again();
        due.is("what was kept latest", x.many(0), 2);
        x.minutes(5);
        x.again();
        due.is("which stays", x.many(0), 2);
        HalfBoats y = new HalfBoats();
        for (int i = 0; i < 4; i++) {
            y.set(i, 0, 999);
            y.set(i, 1, 9);
        }
        y.minutes(3);
        y.keep();
        y.minutes(10);
        due.is("sunk", y.sunk(), 4);
        y.again();
        due.is("not sunk", y.sunk(), HalfBoats.NONE);
        due.is("will be", y.sinks(-1, 0), 4);
    }
}
