/** Promises 52 and 53, sentence by sentence. */
final class KeptEdges {
    private final Edges e;

    KeptEdges(Edges e) {
        this.e = e;
    }

    void all() {
        kept();
        notKept();
        again();
        stays();
        nothing();
    }

    private void kept() {
        e.says("P52", "All but THE TAPE, ROWS, SHEETS, SHELVES, THE TRACE is kept: 1.");
        HalfBoats x = Look.full();
        e.is("keep", x.keep(), 1);
        e.is("keep again", x.keep(), 1);
        HalfBoats y = new HalfBoats();
        e.is("keep of nothing", y.keep(), 1);
        fill(y);
        y.again();
        String other = Look.all(y).other(Look.all(keptNew()));
        e.is("all is as new again: " + other, other.isEmpty() ? 1 : 0, 1);
    }

    private static HalfBoats keptNew() {
        HalfBoats x = new HalfBoats();
        x.keep();
        return x;
    }

    /** Something in all that is kept. */
    private static void fill(HalfBoats x) {
        for (int i = 0; i < 8; i++) {
            x.set(i, 0, 200 + i);
            x.set(i, 1, 1 + i);
            x.set(i, 2, 1);
            x.wall(i, 10 + i);
            x.door(i, true);
        }
        x.minutes(3);
        x.sounding(0, 5, 1, 1);
        x.way(0, 3, 1, 0);
        x.group(5, 0, 0, 0);
        x.boat(6, 3, 9, 1);
        x.ship(5051, 1, 999, 5);
        x.ready(0);
        x.call(3);
        x.light(9, 0, 5);
        for (int i = 0; i < 3; i++) {
            x.list(i, 1 << i | 1);
        }
        x.sworn(0);
        x.sworn(0);
        x.takeBack(0);
        Due.read(x, "seats 1 for 1;first men;come if far=1;");
        x.leg(9, 9);
    }

    private void notKept() {
        e.says("P52", "THE TAPE, ROWS, SHEETS, SHELVES, THE TRACE");
        HalfBoats x = new HalfBoats();
        fill(x);
        x.keep();
        x.seat();
        x.alterRow(0, 1, 77);
        Due.feed(x, "first");
        x.sheet(2, 1, 9);
        x.put(2, 8, -5);
        x.shelf(3, 5, 2);
        x.shelf(1, 1, 0);
        x.act(1, 0, 5);
        x.again();
        e.is("ROWS", x.many(11), 1);
        e.is("a ROW", x.row(0, 1), 77);
        e.is("bytes of THE TAPE", x.many(12), 5);
        e.is("THE TAPE", x.read(), -105);
        e.is("SHEETS", x.item(2, 1, 8), -5);
        e.is("a SHELF with a row", x.taken(3, 11), 9);
        e.is("a SHELF with a BOAT", x.taken(1, 3), 0);
        e.is("THE TRACE", x.trace(0) * 100 + x.trace(1), 4010);
        x.keep();
        x.sheet(2, -1, 0);
        x.shelf(1, 6, 0);
        x.act(1, 0, 0);
        x.again();
        e.is("what is missing stays so", x.item(2, 1, 8), -11);
        e.is("nothing stays nothing", x.taken(1, 0), -11);
        e.is("no TRACE stays none", x.many(13), 0);
    }

    private void again() {
        e.says("P53", "It becomes what was kept latest");
        HalfBoats x = new HalfBoats();
        fill(x);
        x.keep();
        x.minutes(4);
        x.takeBack(1);
        e.is("again", x.again(), 1);
        HalfBoats y = new HalfBoats();
        fill(y);
        y.keep();
        String other = Look.all(x).other(Look.all(y));
        e.is("all is as it was kept: " + other, other.isEmpty() ? 1 : 0, 1);
        HalfBoats z = new HalfBoats();
        for (int i = 1; i <= 3; i++) {
            z.minutes(1);
            z.keep();
        }
        z.minutes(9);
        z.again();
        e.is("the latest", z.many(0), 3);
        HalfBoats s = new HalfBoats();
        s.sounding(4, 9, 1, 999);
        s.sounding(4, 1, 12, 12);
        s.keep();
        e.is("explained", s.explained(0) * 10 + s.explained(1), 163);
        s.sounding(0, 0, 0, 0);
        s.sounding(5, 1, 12, 12);
        e.is("explained by more", s.explained(0), 48);
        s.again();
        e.is("SOUNDINGS as they were", s.explained(0) * 10 + s.explained(1), 163);
        s.sounding(6, 1, 12, 12);
        e.is("another one now", s.explained(0), 80);
        HalfBoats sunk = Look.sunk();
        sunk.keep();
        sunk.set(0, 0, 10);
        sunk.again();
        e.is("SUNK as it was", sunk.sunk(), 4);
        e.is("WATER as it was", sunk.many(14), 732);
        sunk.minutes(5);
        e.is("it stays", sunk.many(14), 732);
    }

    private void stays() {
        e.says("P53", "(which stays): 1.");
        HalfBoats x = new HalfBoats();
        x.minutes(7);
        x.sworn(0);
        x.keep();
        for (int i = 0; i < 3; i++) {
            x.minutes(100);
            x.takeBack(0);
            x.leg(1, 1);
            e.is("again", x.again(), 1);
            e.is("NOW", x.many(0), 7);
            e.is("the word stands", x.standing(999), 1);
            e.is("no LEGS", x.many(10), 0);
        }
    }

    private void nothing() {
        e.says("P53", "NONE: nothing is kept.");
        HalfBoats x = new HalfBoats();
        e.none("new", x.again());
        fill(x);
        e.none("with something", x.again());
        e.is("which stays", x.many(0), 3);
        x.keep();
        e.is("then", x.again(), 1);
    }
}
