/** 'Terms' 8 of SHEETS and SHELVES, and promises 43 to 48 and 51, sentence by sentence. */
final class HostEdges {
    private static final int MIN = Integer.MIN_VALUE;
    private static final int MAX = Integer.MAX_VALUE;

    private final Edges e;

    HostEdges(Edges e) {
        this.e = e;
    }

    void all() {
        sheetsAsTold();
        shelvesAsTold();
        notThereAnyMore();
        sheet();
        sheetBad();
        sheetSize();
        put();
        putBad();
        putMissing();
        putOutside();
        item();
        itemBad();
        itemOtherSort();
        itemMissing();
        itemOutside();
        itemAsLow();
        sound();
        soundLeftOut();
        soundBad();
        soundOtherSort();
        soundMissing();
        soundOutside();
        soundFull();
        shelf();
        shelfMissingRow();
        shelfBad();
        taken();
        takenRow();
        takenBad();
        takenOther();
        takenNothing();
        many();
        manyBad();
    }

    private void sheetsAsTold() {
        e.says("8", "SHEETS 0 to 3 are rows of bytes (sort 0), shorts (1), ints (2), longs (3) or booleans (4), 40 at most, or missing (at first).");
        HalfBoats x = new HalfBoats();
        for (int i = 0; i < 4; i++) {
            e.is("missing at first", x.put(i, 0, 0), -11);
            for (int sort = 0; sort <= 4; sort++) {
                e.is("40 of sort " + sort, x.sheet(i, sort, 40), 1);
                e.is("the last", x.item(i, sort, 39), 0);
                e.is("behind it", x.item(i, sort, 40), -12);
                e.bad("41 of sort " + sort, x.sheet(i, sort, 41));
            }
        }
        e.bad("SHEET -1", x.sheet(-1, 0, 0));
        e.bad("SHEET 4", x.sheet(4, 0, 0));
    }

    private void shelvesAsTold() {
        e.says("8", "SHELVES 0 to 3 hold a CELL, a BOAT, a CALL, a LIGHT, a SWORN word, a SHEET's row, or nothing (at first);");
        HalfBoats x = things();
        for (int i = 0; i < 4; i++) {
            e.is("nothing at first", x.taken(i, 0), -11);
            for (int what = 0; what < 5; what++) {
                e.is("holds " + what, x.shelf(i, what, 0), 1);
                e.is("a thing", x.taken(i, 0), 0);
            }
            e.is("holds a row", x.shelf(i, 5, 0), 1);
            e.is("a row", x.taken(i, 10), 6);
            e.is("holds nothing", x.shelf(i, 6, 0), 1);
            e.is("nothing", x.taken(i, 0), -11);
        }
        e.bad("SHELF -1", x.shelf(-1, 0, 0));
        e.bad("SHELF 4", x.shelf(4, 0, 0));
    }

    /** Three of each thing, BOAT 2 of READING 1, and SHEET 0 of six bytes. */
    private static HalfBoats things() {
        HalfBoats x = new HalfBoats();
        for (int i = 0; i < 3; i++) {
            x.boat(5 + i, 0, 0, i / 2);
            x.call(10 + i);
            x.light(20 + i, 0, 0);
            x.sworn(0);
        }
        x.sheet(0, 0, 6);
        return x;
    }

    private void notThereAnyMore() {
        e.says("8", "one that is not there any more is nothing.");
        int[] kinds = {1, 2, 4, 5, 6};
        for (int what = 1; what <= 4; what++) {
            HalfBoats x = new HalfBoats();
            x.keep();
            x.boat(5, 0, 0, 0);
            x.call(10);
            x.light(20, 0, 0);
            x.sworn(0);
            x.shelf(0, what, 0);
            e.is("there", x.taken(0, kinds[what]), 0);
            x.again();
            e.is("not there any more", x.taken(0, kinds[what]), -11);
            e.is("no matter what for", x.taken(0, 10), -11);
            e.is("it can't act", x.act(0, 0, 5), 0);
            e.bad("nor be put there", x.shelf(1, what, 0));
        }
        HalfBoats y = things();
        y.keep();
        y.shelf(0, 0, 7);
        y.shelf(1, 5, 0);
        y.shelf(2, 1, 2);
        y.again();
        e.is("a CELL is there always", y.taken(0, 1), 7);
        e.is("a row is not kept with the rest", y.taken(1, 10), 6);
        e.is("a BOAT that was there ahead", y.taken(2, 3), 2);
    }

    private void sheet() {
        e.says("P43", "A SHEET becomes a row of n of a sort, all 0, or missing (sort -1): 1.");
        HalfBoats x = new HalfBoats();
        for (int sort = 0; sort <= 4; sort++) {
            e.is("a row of three", x.sheet(2, sort, 3), 1);
            for (int i = 0; i < 3; i++) {
                e.is("0", x.item(2, sort, i), 0);
                x.put(2, i, -1);
            }
            e.is("anew", x.sheet(2, sort, 3), 1);
            e.is("all 0 again", x.item(2, sort, 2), 0);
            e.is("a row of none", x.sheet(2, sort, 0), 1);
            e.is("no item", x.item(2, sort, 0), -12);
            e.is("missing", x.sheet(2, -1, 3), 1);
            e.is("no row", x.item(2, sort, 0), -11);
            e.is("missing again", x.sheet(2, -1, 0), 1);
        }
    }

    private void sheetBad() {
        e.says("P43", "BAD: no such SHEET, sort, n above 40;");
        HalfBoats x = new HalfBoats();
        int[][] no = {{-1, 0, 1}, {4, 0, 1}, {MIN, 0, 1}, {MAX, 0, 1}, {0, -2, 1}, {0, 5, 1}, {0, MIN, 1}, {0, MAX, 1}, {0, 0, 41}, {0, 4, 41}, {0, 0, MAX},
            {-1, 0, -1}, {0, 5, -1}};
        for (int[] n : no) {
            e.bad("sheet(" + n[0] + ", " + n[1] + ", " + n[2] + ")", x.sheet(n[0], n[1], n[2]));
        }
        e.is("still missing", x.item(0, 0, 0), -11);
    }

    private void sheetSize() {
        e.says("P43", "-14.");
        HalfBoats x = new HalfBoats();
        x.sheet(0, 2, 5);
        x.put(0, 4, 77);
        for (int sort = 0; sort <= 4; sort++) {
            e.is("n -1 of sort " + sort, x.sheet(0, sort, -1), -14);
            e.is("n MIN of sort " + sort, x.sheet(0, sort, MIN), -14);
        }
        e.is("as it was", x.item(0, 2, 4), 77);
    }

    private void put() {
        e.says("P44", "Item i becomes v, narrowed to its sort (booleans: whether it isn't 0): 1.");
        int[] values = {0, 1, -1, 2, 127, 128, -128, -129, 255, 256, 32767, 32768, -32768, -32769, 65535, 65536, MAX, MIN};
        for (int sort = 0; sort <= 4; sort++) {
            HalfBoats x = new HalfBoats();
            x.sheet(3, sort, 1);
            for (int v : values) {
                int want = sort == 0 ? (byte) v : sort == 1 ? (short) v : sort == 4 ? (v != 0 ? 1 : 0) : v;
                e.is("put " + v, x.put(3, 0, v), 1);
                e.is(v + " of sort " + sort, x.item(3, sort, 0), want);
            }
        }
        HalfBoats y = new HalfBoats();
        y.sheet(0, 2, 40);
        y.sheet(1, 2, 40);
        y.put(0, 39, 5);
        e.is("no other item", y.item(0, 2, 38), 0);
        e.is("no other SHEET", y.item(1, 2, 0) + y.item(1, 2, 39), 0);
    }

    private void putBad() {
        e.says("P44", "BAD: no such SHEET;");
        HalfBoats x = things();
        int[] no = {MIN, -1, 4, MAX};
        for (int sheet : no) {
            e.bad("put(" + sheet + ", 0, 0)", x.put(sheet, 0, 0));
            e.bad("put(" + sheet + ", -1, 0)", x.put(sheet, -1, 0));
        }
    }

    private void putMissing() {
        e.says("P44", "-11;");
        HalfBoats x = things();
        e.is("missing", x.put(1, 0, 0), -11);
        e.is("-11 ahead of -12", x.put(1, -1, 0), -11);
        e.is("-11 ahead of -12", x.put(1, MAX, 0), -11);
        x.sheet(0, -1, 0);
        e.is("missing again", x.put(0, 0, 0), -11);
    }

    private void putOutside() {
        e.says("P44", "-12.");
        HalfBoats x = things();
        int[] no = {MIN, -1, 6, 39, 40, MAX};
        for (int i : no) {
            e.is("put(0, " + i + ", 1)", x.put(0, i, 1), -12);
        }
        e.is("the last", x.put(0, 5, 1), 1);
        x.sheet(0, 0, 0);
        e.is("a row of none", x.put(0, 0, 1), -12);
    }

    private void item() {
        e.says("P45", "Item i, taken for a sort (0 to 4; of longs the lowest 32 bits, of booleans 1, 0).");
        HalfBoats x = new HalfBoats();
        x.sheet(0, 3, 2);
        x.put(0, 0, MIN);
        x.put(0, 1, -1);
        e.is("a long", x.item(0, 3, 0), MIN);
        e.is("a long", x.item(0, 3, 1), -1);
        x.sheet(0, 4, 2);
        x.put(0, 0, MIN);
        e.is("a boolean", x.item(0, 4, 0), 1);
        e.is("another", x.item(0, 4, 1), 0);
        x.sheet(0, 1, 1);
        x.put(0, 0, 40000);
        e.is("a short", x.item(0, 1, 0), 40000 - 65536);
    }

    private void itemBad() {
        e.says("P45", "BAD: no such SHEET, sort;");
        HalfBoats x = things();
        int[][] no = {{-1, 0}, {4, 0}, {MIN, 0}, {MAX, 0}, {0, -1}, {0, 5}, {0, MIN}, {0, MAX}, {1, 5}};
        for (int[] n : no) {
            e.bad("item(" + n[0] + ", " + n[1] + ", 0)", x.item(n[0], n[1], 0));
            e.bad("item(" + n[0] + ", " + n[1] + ", -1)", x.item(n[0], n[1], -1));
        }
    }

    private void itemOtherSort() {
        e.says("P45", "-13;");
        HalfBoats x = new HalfBoats();
        for (int sort = 0; sort <= 4; sort++) {
            x.sheet(0, sort, 2);
            for (int as = 0; as <= 4; as++) {
                e.is("sort " + sort + " as " + as, x.item(0, as, 0), as == sort ? 0 : -13);
                e.is("sort " + sort + " as " + as + ", outside", x.item(0, as, 2), as == sort ? -12 : -13);
            }
        }
    }

    private void itemMissing() {
        e.says("P45", "-11;");
        HalfBoats x = new HalfBoats();
        for (int as = 0; as <= 4; as++) {
            e.is("missing, as " + as, x.item(3, as, 0), -11);
            e.is("missing, as " + as + ", outside", x.item(3, as, -1), -11);
        }
    }

    private void itemOutside() {
        e.says("P45", "-12.");
        HalfBoats x = things();
        int[] no = {MIN, -1, 6, 39, 40, MAX};
        for (int i : no) {
            e.is("item(0, 0, " + i + ")", x.item(0, 0, i), -12);
        }
        e.is("the first", x.item(0, 0, 0), 0);
        e.is("the last", x.item(0, 0, 5), 0);
    }

    private void itemAsLow() {
        e.says("P45", "(An item may be as low as these, too.)");
        HalfBoats x = things();
        int[] low = {-1, -11, -12, -13, -128};
        for (int v : low) {
            x.put(0, 0, v);
            e.is("" + v, x.item(0, 0, 0), v);
        }
    }

    private void sound() {
        e.says("P46", "SOUNDINGS of a CELL come from a SHEET taken for bytes: n (0 to 9) items from item i on: each so many tons, exactly, "
            + "in MINUTES minute, minute + 1, and so on");
        HalfBoats x = new HalfBoats();
        x.sheet(1, 0, 40);
        e.is("none of them", x.sound(0, 0, 1, 0, 0), 0);
        e.is("none, from the end on", x.sound(0, 0, 1, 40, 0), 0);
        e.is("nine of them", x.sound(0, 0, 1, 31, 9), 9);
        e.is("how many", x.many(1), 9);
        e.is("all dry", x.explained(0), 0);
        // HOLE 2 in CELL 4: 8, then 6 more (2 times 32 by 10).
        HalfBoats y = new HalfBoats();
        y.sheet(0, 0, 5);
        y.put(0, 2, 8);
        y.put(0, 3, 14);
        e.is("three, from MINUTE 0 on", y.sound(4, 0, 0, 1, 3), 3);
        e.is("CELL 4", y.explained(0), 16);
        e.is("rate 2", y.explained(1), 2);
        y.put(0, 4, 15);
        e.is("one of another", y.sound(4, 2, 0, 4, 1), 1);
        e.none("exactly so many", y.explained(0));
    }

    private void soundLeftOut() {
        e.says("P46", "(those that are no SOUNDING are left out): how many came.");
        HalfBoats x = new HalfBoats();
        x.sheet(0, 0, 9);
        x.put(0, 1, -1);
        x.put(0, 2, -128);
        x.put(0, 3, 127);
        e.is("two below 0", x.sound(0, 10, 0, 0, 4), 2);
        e.is("60 and 61", x.sound(0, 60, 0, 4, 2), 1);
        e.is("59 to 63", x.sound(0, 59, 0, 4, 5), 2);
        e.is("all below 0", x.sound(0, 0, 0, 1, 2), 0);
        e.is("how many", x.many(1), 5);
        HalfBoats y = new HalfBoats();
        y.sheet(0, 0, 2);
        y.put(0, 0, -1);
        y.put(0, 1, 36);
        y.sound(7, 0, 0, 0, 2);
        e.is("the one behind is in its own MINUTE", y.explained(0), 128);
        e.is("rate 9", y.explained(1), 9);
    }

    private void soundBad() {
        e.says("P46", "BAD: no such CELL, SHEET, n, minute isn't 0 to 60;");
        HalfBoats x = things();
        int[][] no = {{-1, 0, 0, 0, 1}, {8, 0, 0, 0, 1}, {MIN, 0, 0, 0, 1}, {MAX, 0, 0, 0, 1}, {0, -1, 0, 0, 1}, {0, 61, 0, 0, 1}, {0, MIN, 0, 0, 1},
            {0, MAX, 0, 0, 1}, {0, 0, -1, 0, 1}, {0, 0, 4, 0, 1}, {0, 0, MIN, 0, 1}, {0, 0, MAX, 0, 1}, {0, 0, 0, 0, -1}, {0, 0, 0, 0, 10}, {0, 0, 0, 0, MIN},
            {0, 0, 0, 0, MAX}, {0, 61, 0, 0, 0}, {8, 0, 1, 0, 0}, {0, 0, 1, -1, 10}, {0, 61, 0, 99, 1}};
        for (int[] n : no) {
            e.bad("sound(" + n[0] + ", " + n[1] + ", " + n[2] + ", " + n[3] + ", " + n[4] + ")", x.sound(n[0], n[1], n[2], n[3], n[4]));
        }
        e.is("none came", x.many(1), 0);
        e.is("MINUTE 60", x.sound(7, 60, 0, 5, 1), 1);
        e.is("MINUTE 0", x.sound(0, 0, 0, 0, 1), 1);
    }

    private void soundOtherSort() {
        e.says("P46", "-13;");
        HalfBoats x = new HalfBoats();
        for (int sort = 1; sort <= 4; sort++) {
            x.sheet(0, sort, 2);
            e.is("sort " + sort, x.sound(0, 0, 0, 0, 1), -13);
            e.is("sort " + sort + ", no item", x.sound(0, 0, 0, 0, 0), -13);
            e.is("sort " + sort + ", outside", x.sound(0, 0, 0, -1, 1), -13);
        }
        e.is("none came", x.many(1), 0);
    }

    private void soundMissing() {
        e.says("P46", "-11;");
        HalfBoats x = things();
        e.is("missing", x.sound(0, 0, 1, 0, 1), -11);
        e.is("missing, no item", x.sound(0, 0, 1, 0, 0), -11);
        e.is("missing, outside", x.sound(0, 0, 1, -1, 9), -11);
        x.sheet(0, -1, 0);
        e.is("missing again", x.sound(0, 0, 0, 0, 0), -11);
    }

    private void soundOutside() {
        e.says("P46", "-12: what stood ahead came;");
        HalfBoats x = things();
        e.is("from -1 on", x.sound(0, 0, 0, -1, 2), -12);
        e.is("from 6 on", x.sound(0, 0, 0, 6, 1), -12);
        e.is("from MIN on", x.sound(0, 0, 0, MIN, 9), -12);
        e.is("from MAX on", x.sound(0, 0, 0, MAX, 9), -12);
        e.is("none came", x.many(1), 0);
        e.is("from 5 on, two", x.sound(0, 0, 0, 5, 2), -12);
        e.is("one came", x.many(1), 1);
        x.put(0, 4, -1);
        e.is("from 3 on, nine", x.sound(0, 0, 0, 3, 9), -12);
        e.is("two more, less one left out", x.many(1), 3);
        e.is("from 5 on in MINUTE 60", x.sound(0, 60, 0, 5, 3), -12);
        e.is("one more", x.many(1), 4);
    }

    private void soundFull() {
        e.says("P46", "FULL likewise.");
        HalfBoats x = new HalfBoats();
        x.sheet(0, 0, 9);
        x.put(0, 8, -1);
        for (int i = 0; i < 14; i++) {
            x.sounding(0, 0, 0, 0);
        }
        e.full("three", x.sound(0, 0, 0, 0, 3));
        e.is("two came", x.many(1), 16);
        e.full("one", x.sound(0, 0, 0, 0, 1));
        e.is("none", x.sound(0, 0, 0, 0, 0), 0);
        e.is("one that is left out", x.sound(0, 0, 0, 8, 1), 0);
        e.is("outside", x.sound(0, 0, 0, 9, 1), -12);
        e.is("left out, then outside", x.sound(0, 0, 0, 8, 2), -12);
        e.full("FULL, then outside", x.sound(0, 0, 0, 7, 3));
        e.is("how many", x.many(1), 16);
    }

    private void shelf() {
        e.says("P47", "A SHELF holds CELL n (what 0), BOAT n (1), CALL n (2), LIGHT n (3), SWORN word n (4), the row of SHEET n (5;");
        HalfBoats x = things();
        int[] kinds = {1, 2, 4, 5, 6};
        for (int what = 0; what <= 4; what++) {
            for (int n = 0; n < 3; n++) {
                e.is("what " + what + ", " + n, x.shelf(3, what, n), 1);
                e.is("its number", x.taken(3, kinds[what]), n);
            }
        }
        for (int n = 0; n < 4; n++) {
            x.sheet(n, n, 10 + n);
            e.is("the row of SHEET " + n, x.shelf(n, 5, n), 1);
        }
        for (int n = 0; n < 4; n++) {
            e.is("each SHELF its own", x.taken(n, 10 + n), 10 + n);
        }
    }

    private void shelfMissingRow() {
        e.says("P47", "nothing, if missing), nothing (6): 1.");
        HalfBoats x = things();
        x.shelf(0, 0, 5);
        e.is("a missing row", x.shelf(0, 5, 3), 1);
        e.is("is nothing", x.taken(0, 1), -11);
        x.shelf(0, 0, 5);
        e.is("nothing", x.shelf(0, 6, 0), 1);
        e.is("is nothing", x.taken(0, 1), -11);
        int[] any = {MIN, -1, 8, MAX};
        for (int n : any) {
            e.is("nothing has no number: " + n, x.shelf(0, 6, n), 1);
        }
    }

    private void shelfBad() {
        e.says("P47", "BAD: no such SHELF, what, thing.");
        HalfBoats x = things();
        x.shelf(0, 0, 5);
        int[][] no = {{-1, 0, 0}, {4, 0, 0}, {MIN, 0, 0}, {MAX, 0, 0}, {-1, 6, 0}, {0, -1, 0}, {0, 7, 0}, {0, MIN, 0}, {0, MAX, 0}};
        for (int[] n : no) {
            e.bad("shelf(" + n[0] + ", " + n[1] + ", " + n[2] + ")", x.shelf(n[0], n[1], n[2]));
        }
        int[] there = {8, 3, 3, 3, 3, 4};
        for (int what = 0; what <= 5; what++) {
            e.bad("what " + what + ", -1", x.shelf(0, what, -1));
            e.bad("what " + what + ", " + there[what], x.shelf(0, what, there[what]));
            e.bad("what " + what + ", MIN", x.shelf(0, what, MIN));
            e.bad("what " + what + ", MAX", x.shelf(0, what, MAX));
            e.is("what " + what + ", the last", x.shelf(1, what, there[what] - 1), 1);
        }
        e.is("as it was", x.taken(0, 1), 5);
        HalfBoats y = new HalfBoats();
        for (int what = 1; what <= 4; what++) {
            e.bad("none of them yet", y.shelf(0, what, 0));
        }
    }

    private void taken() {
        e.says("P48", "What a SHELF holds taken for a thing of kind as (0 to 6, or one under it): its number;");
        HalfBoats x = things();
        // what, number, and the kinds that it can be taken for
        int[][] held = {{0, 7, 0b0000011}, {1, 1, 0b0000101}, {1, 2, 0b0001101}, {2, 1, 0b0010001}, {3, 2, 0b0110001}, {4, 1, 0b1000001}};
        for (int[] h : held) {
            x.shelf(2, h[0], h[1]);
            for (int as = 0; as <= 6; as++) {
                e.is("what " + h[0] + " number " + h[1] + " as " + as, x.taken(2, as), (h[2] >> as & 1) == 1 ? h[1] : -13);
            }
        }
    }

    private void takenRow() {
        e.says("P48", "for a row of sort as - 10 (as 10 to 14): how many items.");
        HalfBoats x = new HalfBoats();
        for (int sort = 0; sort <= 4; sort++) {
            for (int n : new int[] {0, 1, 40}) {
                x.sheet(0, sort, n);
                x.shelf(0, 5, 0);
                e.is(n + " of sort " + sort, x.taken(0, 10 + sort), n);
            }
        }
    }

    private void takenBad() {
        e.says("P48", "BAD: no such SHELF, as;");
        HalfBoats x = things();
        x.shelf(0, 0, 0);
        int[][] no = {{-1, 0}, {4, 0}, {MIN, 0}, {MAX, 0}, {0, -1}, {0, 7}, {0, 8}, {0, 9}, {0, 15}, {0, MIN}, {0, MAX}, {1, 7}, {1, 15}};
        for (int[] n : no) {
            e.bad("taken(" + n[0] + ", " + n[1] + ")", x.taken(n[0], n[1]));
        }
    }

    private void takenOther() {
        e.says("P48", "-13;");
        HalfBoats x = things();
        x.shelf(0, 0, 0);
        x.shelf(1, 5, 0);
        for (int as = 10; as <= 14; as++) {
            e.is("a CELL as a row", x.taken(0, as), -13);
            e.is("bytes as " + as, x.taken(1, as), as == 10 ? 6 : -13);
        }
        for (int as = 0; as <= 6; as++) {
            e.is("a row as a thing", x.taken(1, as), -13);
        }
        x.shelf(0, 1, 0);
        e.is("a BOAT of READING 0 is no light boat", x.taken(0, 3), -13);
        x.shelf(0, 2, 0);
        e.is("a CALL is no order", x.taken(0, 5), -13);
    }

    private void takenNothing() {
        e.says("P48", "-11.");
        HalfBoats x = things();
        for (int as = 0; as <= 14; as++) {
            if (as < 7 || as > 9) {
                e.is("nothing as " + as, x.taken(3, as), -11);
            }
        }
    }

    private void many() {
        e.says("P51", "How many: what = 0 NOW, 1 SOUNDINGS, 2 WAYS, 3 GROUPS, 4 BOATS, 5 SHIPS, 6 CALLS, 7 LIGHTS, 8 SWORN words, 9 VERSIONS, 10 LEGS, 11 ROWS, "
            + "12 bytes of THE TAPE, 13 bodies of THE TRACE, 14 all WATER, 15 persons of all GROUPS.");
        HalfBoats none = new HalfBoats();
        HalfBoats full = Look.full();
        int[] want = {999, 16, 12, 10, 8, 6, 10, 8, 12, 6, 7, full.seat(), 200, 0, full.cell(3, 0), 455};
        for (int what = 0; what <= 15; what++) {
            e.is("of nothing: " + what, none.many(what), 0);
            e.is("of all: " + what, full.many(what), want[what]);
        }
        full.shelf(0, 1, 1);
        full.act(0, 3, 1);
        e.is("bodies of THE TRACE", full.many(13), 6);
    }

    private void manyBad() {
        e.says("P51", "BAD: another what.");
        int[] no = {MIN, -1, 16, MAX};
        for (int what : no) {
            e.bad("many(" + what + ")", new HalfBoats().many(what));
        }
    }
}
