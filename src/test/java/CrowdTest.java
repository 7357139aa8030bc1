/** Promises 11 to 21: groups, boats. */
public final class CrowdTest {
    private static final Due due = new Due("CrowdTest");

    public static void main(String[] args) {
        ways();
        groups();
        reach();
        boats();
        can();
        most();
        seating();
        rows();
        judge();
        judgeFull();
        judgeRise();
        order();
        orderByNumbers();
        orderRefusals();
        due.end();
    }

    private static void ways() {
        HalfBoats x = new HalfBoats();
        int[][] bad = {{-1, 0, 1, 0}, {0, 8, 1, 0}, {3, 3, 1, 0}, {0, 1, 0, 0}, {0, 1, 21, 0}, {0, 1, 1, -1}, {0, 1, 1, 1000}};
        for (int[] b : bad) {
            due.is("way BAD", x.way(b[0], b[1], b[2], b[3]), HalfBoats.BAD);
        }
        for (int i = 0; i < 12; i++) {
            due.is("way", x.way(7, 0, 20, 999), i);
        }
        due.is("way FULL", x.way(0, 1, 1, 0), HalfBoats.FULL);
        due.is("BAD ahead of FULL", x.way(1, 1, 1, 0), HalfBoats.BAD);
        due.is("many(2)", x.many(2), 12);
    }

    private static void groups() {
        HalfBoats x = new HalfBoats();
        int[][] bad = {{0, 0, 0, 0}, {51, 0, 0, 0}, {1, -1, 0, 0}, {1, 3, 0, 0}, {1, 0, -1, 0}, {1, 0, 8, 0}, {1, 0, 0, -1},
            {1, 0, 0, 1000}};
        for (int[] b : bad) {
            due.is("group BAD", x.group(b[0], b[1], b[2], b[3]), HalfBoats.BAD);
        }
        for (int i = 0; i < 10; i++) {
            due.is("group", x.group(50, 2, 7, 999), i);
        }
        due.is("group FULL", x.group(1, 0, 0, 0), HalfBoats.FULL);
        due.is("BAD ahead of FULL", x.group(0, 0, 0, 0), HalfBoats.BAD);
        due.is("many(3)", x.many(3), 10);
        due.is("many(15)", x.many(15), 500);
    }

    private static void reach() {
        HalfBoats x = new HalfBoats();
        x.group(1, 0, 0, 10);
        due.is("group -1", x.reach(-1, 0), HalfBoats.BAD);
        due.is("group 1", x.reach(1, 0), HalfBoats.BAD);
        due.is("place -1", x.reach(0, -1), HalfBoats.BAD);
        due.is("place 8", x.reach(0, 8), HalfBoats.BAD);
        due.is("where they are", x.reach(0, 0), 10);
        due.is("no way", x.reach(0, 1), HalfBoats.NONE);
        x.way(0, 1, 20, 0);
        x.way(1, 0, 5, 30);
        due.is("the long one, never shut", x.reach(0, 1), 30);
        x.way(2, 1, 3, 31);
        due.is("shut till 31", x.reach(0, 2), 34);
        x.way(0, 2, 20, 10);
        due.is("shut till they come", x.reach(0, 2), 30);
        x.group(1, 0, 3, 999);
        x.way(3, 4, 20, 0);
        due.is("above 999", x.reach(1, 4), 1019);
        // All PLACES in one row, told backwards.
        HalfBoats y = new HalfBoats();
        for (int p = 6; p >= 0; p--) {
            y.way(p + 1, p, 2, 0);
        }
        y.group(1, 0, 0, 1);
        y.group(1, 0, 7, 1);
        due.is("seven ways", y.reach(0, 7), 15);
        due.is("and back", y.reach(1, 0), 15);
    }

    private static void boats() {
        HalfBoats x = new HalfBoats();
        int[][] bad = {{0, 0, 0, 0}, {66, 0, 0, 0}, {1, -1, 0, 0}, {1, 8, 0, 0}, {1, 0, -1, 0}, {1, 0, 1000, 0}, {1, 0, 0, -1},
            {1, 0, 0, 2}};
        for (int[] b : bad) {
            due.is("boat BAD", x.boat(b[0], b[1], b[2], b[3]), HalfBoats.BAD);
        }
        for (int i = 0; i < 8; i++) {
            due.is("boat", x.boat(65, 7, 999, 1), i);
        }
        due.is("boat FULL", x.boat(1, 0, 0, 0), HalfBoats.FULL);
        due.is("BAD ahead of FULL", x.boat(66, 0, 0, 0), HalfBoats.BAD);
        due.is("many(4)", x.many(4), 8);
    }

    private static void can() {
        HalfBoats x = new HalfBoats();
        x.group(5, 0, 0, 10);
        x.group(5, 1, 0, 10);
        x.group(5, 2, 0, 10);
        x.boat(5, 0, 9, 1);
        x.boat(5, 0, 10, 1);
        x.boat(5, 0, 11, 0);
        x.boat(5, 1, 999, 1);
        due.is("can BAD", x.can(-1), HalfBoats.BAD);
        due.is("can BAD", x.can(3), HalfBoats.BAD);
        due.is("children", x.can(0), 6);
        due.is("women", x.can(1), 6);
        due.is("men", x.can(2), 2);
        x.way(0, 1, 1, 0);
        due.is("by the way", x.can(2), 10);
    }

    private static HalfBoats three() {
        HalfBoats x = new HalfBoats();
        x.group(10, 1, 0, 0);
        x.group(10, 2, 0, 0);
        x.group(10, 0, 1, 0);
        x.boat(12, 0, 5, 1);
        x.boat(12, 0, 5, 0);
        x.boat(3, 1, 5, 1);
        return x;
    }

    private static void most() {
        HalfBoats x = new HalfBoats();
        due.is("most of none", x.most(), 0);
        x.group(10, 1, 0, 0);
        due.is("no boats", x.most(), 0);
        x = three();
        due.is("most", x.most(), 23);
        x.way(0, 1, 5, 0);
        due.is("now all boats", x.most(), 27);
    }

    private static void seating() {
        HalfBoats x = three();
        // Women may have 2 SEATS of BOAT 0 at most, if all men are to sit.
        due.is("seat", x.seat(), 4);
        int[][] want = {{0, 0, 2}, {0, 1, 8}, {1, 0, 10}, {2, 2, 3}};
        for (int i = 0; i < 4; i++) {
            for (int what = 0; what < 3; what++) {
                due.is("row " + i + ", " + what, x.row(i, what), want[i][what]);
            }
        }
        due.is("judge", x.judge(), 23);
        due.is("many(11)", x.many(11), 4);
        HalfBoats y = new HalfBoats();
        due.is("seat of none", y.seat(), 0);
        due.is("judge of none", y.judge(), 0);
    }

    private static void rows() {
        HalfBoats x = three();
        x.seat();
        due.is("row -1", x.row(-1, 0), -9);
        due.is("row 4", x.row(4, 0), -9);
        due.is("what -1", x.row(0, -1), -9);
        due.is("what 3", x.row(0, 3), -9);
        due.is("alter row -1", x.alterRow(-1, 0, 0), -9);
        due.is("alter row 4", x.alterRow(4, 0, 0), -9);
        due.is("alter what -1", x.alterRow(0, -1, 0), -9);
        due.is("alter what 3", x.alterRow(0, 3, 0), -9);
        due.is("alter", x.alterRow(3, 2, Integer.MIN_VALUE), 3);
        due.is("altered", x.row(3, 2), Integer.MIN_VALUE);
        due.is("alter", x.alterRow(3, 1, 77), 2);
        due.is("altered", x.row(3, 1), 77);
        x.boat(10, 0, 0, 1);
        due.is("ROWS stay as BOATS come", x.row(3, 1), 77);
        // With BOAT 3 for the men, all women can be in BOAT 0.
        due.is("seat again", x.seat(), 4);
        due.is("all women", x.row(0, 2), 10);
        due.is("men in BOAT 0", x.row(1, 2), 2);
        due.is("men in BOAT 3", x.row(2, 2), 8);
    }

    private static void judge() {
        // what is altered in which ROW, and what is due
        int[][] cases = {{0, 0, -1, -100}, {0, 0, 3, -100}, {0, 1, -1, -100}, {0, 1, 3, -100}, {1, 1, 0, -101}, {1, 0, -1, -101},
            {2, 0, 0, -102}, {2, 1, 1, -102}, {0, 2, 0, -100}, {0, 2, -5, -100}, {0, 2, 3, -101}, {0, 2, 1, 22}, {1, 2, 9, -101},
            {2, 2, 11, -102}, {3, 2, 4, -103}, {3, 2, Integer.MAX_VALUE, -103}, {3, 1, 0, -103}, {2, 2, 9, 22}, {3, 0, 1, -103}};
        for (int[] c : cases) {
            HalfBoats x = three();
            x.seat();
            x.alterRow(c[0], c[1], c[2]);
            due.is("judge, row " + c[0] + ", " + c[1] + " as " + c[2], x.judge(), c[3]);
        }
        HalfBoats x = three();
        x.seat();
        x.alterRow(0, 2, 1);
        x.alterRow(1, 2, 9);
        due.is("other rows that are right", x.judge(), 23);
        x.alterRow(0, 2, 3);
        x.alterRow(1, 2, 7);
        due.is("the BOAT has more than there are", x.judge(), -102);
    }

    private static void judgeFull() {
        HalfBoats x = new HalfBoats();
        for (int i = 0; i < 10; i++) {
            x.group(1, 0, 0, 0);
        }
        for (int i = 0; i < 8; i++) {
            x.boat(2, 0, 0, 1);
        }
        due.is("ten ROWS", x.seat(), 10);
        due.is("ten", x.judge(), 10);
        int[][] cases = {{9, 0, 10, -109}, {9, 0, 11, -109}, {9, 0, Integer.MAX_VALUE, -109}, {9, 0, Integer.MIN_VALUE, -109}, {9, 1, 8, -109},
            {9, 1, 9, -109}, {9, 1, Integer.MAX_VALUE, -109}, {9, 1, 7, 10}};
        for (int[] c : cases) {
            int was = x.alterRow(c[0], c[1], c[2]);
            due.is("judge, row " + c[0] + ", " + c[1] + " as " + c[2], x.judge(), c[3]);
            x.alterRow(c[0], c[1], was);
        }
    }

    private static void judgeRise() {
        HalfBoats x = new HalfBoats();
        x.group(10, 0, 0, 0);
        x.boat(5, 0, 0, 1);
        x.boat(5, 0, 0, 1);
        x.boat(9, 0, 0, 1);
        due.is("two ROWS", x.seat(), 2);
        x.alterRow(0, 1, 2);
        due.is("BOAT 1 behind BOAT 2", x.judge(), -101);
        x.alterRow(1, 1, 2);
        x.alterRow(1, 2, 4);
        due.is("BOAT 2 behind BOAT 2", x.judge(), -101);
        x.alterRow(0, 1, 1);
        due.is("BOAT 2 behind BOAT 1", x.judge(), 9);
    }

    private static void order() {
        HalfBoats x = new HalfBoats();
        x.group(10, 1, 0, 15);
        x.group(10, 1, 1, 0);
        x.boat(10, 0, 0, 1);
        x.boat(10, 1, 0, 1);
        due.is("now", x.most(), 10);
        due.is("the later one last", x.order(3, 10, -1), 20);
        due.is("first", x.order(3, 10, 0), 1);
        due.is("then", x.order(3, 10, 1), 0);
        due.is("what 2", x.order(3, 10, 2), HalfBoats.NONE);
        due.is("one alone", x.order(1, 10, -1), 10);
        due.is("one alone, later", x.order(1, 15, -1), 20);
        due.is("slow enough for any: by numbers", x.order(3, 15, 0), 0);
        x.minutes(5);
        due.is("from NOW on", x.order(3, 10, 0), 0);
        due.is("from NOW on", x.order(3, 10, -1), 20);
        due.is("BOATS stay as they are", x.most(), 10);
        due.is("LOWERED above 999", x.order(3, 30, 0), 0);
        // The third one has to be last, the others by numbers.
        HalfBoats y = new HalfBoats();
        for (int i = 0; i < 6; i++) {
            y.group(10, 0, i, i == 2 ? 6 : i == 4 ? 5 : 0);
            y.boat(10, i, 0, 0);
        }
        due.is("all six", y.order(63, 1, -1), 60);
        int[] want = {0, 1, 3, 5, 4, 2};
        for (int i = 0; i < 6; i++) {
            due.is("the order of six, " + i, y.order(63, 1, i), want[i]);
        }
        due.is("what 6", y.order(63, 1, 6), HalfBoats.NONE);
        due.is("READINGS as they are", y.group(9, 2, 3, 0), 6);
        due.is("no men", y.order(8, 30, -1), 50 - 10);
    }

    private static void orderByNumbers() {
        // Three GROUPS come to their BOATS only if these are LOWERED last: no order seats all 35.
        HalfBoats x = new HalfBoats();
        x.group(10, 0, 0, 30);
        x.group(10, 0, 1, 30);
        x.group(5, 0, 2, 30);
        x.group(10, 0, 3, 0);
        x.boat(10, 0, 0, 0);
        x.boat(10, 1, 0, 0);
        x.boat(5, 2, 0, 0);
        x.boat(10, 3, 0, 0);
        due.is("ten as the last, ten in any case", x.order(7, 10, -1), 20);
        int[] want = {0, 2, 1};
        for (int i = 0; i < 3; i++) {
            due.is("the first by numbers with which BOAT 0 or 1 is last, " + i, x.order(7, 10, i), want[i]);
        }
        due.is("with all four", x.order(15, 8, -1), 20);
        int[] four = {0, 2, 3, 1};
        for (int i = 0; i < 4; i++) {
            due.is("the first by numbers of four, " + i, x.order(15, 8, i), four[i]);
        }
    }

    private static void orderRefusals() {
        HalfBoats x = new HalfBoats();
        due.is("no BOATS there", x.order(1, 1, -1), HalfBoats.BAD);
        for (int i = 0; i < 7; i++) {
            x.boat(1, 0, 0, 0);
        }
        due.is("no BOAT", x.order(0, 1, -1), HalfBoats.BAD);
        due.is("no such BOAT", x.order(128, 1, -1), HalfBoats.BAD);
        due.is("no such BOAT", x.order(129, 1, -1), HalfBoats.BAD);
        due.is("below 0", x.order(-1, 1, -1), HalfBoats.BAD);
        due.is("labour 0", x.order(1, 0, -1), HalfBoats.BAD);
        due.is("labour 31", x.order(1, 31, -1), HalfBoats.BAD);
        due.is("what -2", x.order(1, 1, -2), HalfBoats.BAD);
        due.is("seven", x.order(127, 1, -1), HalfBoats.FULL);
        due.is("seven, labour", x.order(127, 31, -1), HalfBoats.BAD);
        due.is("seven, no such", x.order(127, 1, 9), HalfBoats.FULL);
        due.is("six", x.order(126, 1, 0), 1);
        due.is("none such", x.order(126, 1, Integer.MAX_VALUE), HalfBoats.NONE);
    }
}
