/** 'Terms' 3 from MOST on, and promises 16 to 21, sentence by sentence. */
final class SeatingEdges {
    private static final int MIN = Integer.MIN_VALUE;
    private static final int MAX = Integer.MAX_VALUE;

    private final Edges e;

    SeatingEdges(Edges e) {
        this.e = e;
    }

    void all() {
        mostAsTold();
        seating();
        rowsOfIt();
        readerTakes();
        rightThere();
        rightRises();
        rightCan();
        rightOneOrMore();
        rightNoMore();
        orderAsTold();
        orderGreatest();
        orderFirst();
        most();
        seat();
        row();
        rowNone();
        alterRow();
        alterRowNone();
        judge();
        judgeWrong();
        order();
        orderNone();
        orderBad();
        orderFull();
    }

    private void mostAsTold() {
        e.says("3", "MOST: how many persons can be in SEATS together, each in a BOAT that their GROUP CAN (a GROUP may be parted).");
        HalfBoats x = new HalfBoats();
        x.group(50, 2, 0, 0);
        x.boat(20, 0, 0, 1);
        e.is("as many as SEATS", x.most(), 20);
        x.boat(29, 0, 0, 1);
        e.is("parted", x.most(), 49);
        x.boat(65, 0, 0, 0);
        e.is("a BOAT that they can't", x.most(), 49);
        x.boat(2, 0, 0, 1);
        e.is("as many as persons", x.most(), 50);
        HalfBoats y = new HalfBoats();
        for (int i = 0; i < 10; i++) {
            y.group(50, 0, 0, 0);
        }
        for (int i = 0; i < 8; i++) {
            y.boat(65, 0, 0, 0);
        }
        e.is("all 500 in 520 SEATS", y.most(), 500);
    }

    /** GROUP 0 can BOATS 0 and 1, GROUP 1 BOAT 0 alone. */
    private static HalfBoats two(int women, int men, int all, int few) {
        HalfBoats x = new HalfBoats();
        x.group(women, 1, 0, 0);
        x.group(men, 2, 0, 0);
        x.boat(all, 0, 0, 1);
        x.boat(few, 0, 0, 0);
        return x;
    }

    private void rows(String name, HalfBoats x, int[]... want) {
        e.is(name + ": how many ROWS", x.seat(), want.length);
        for (int i = 0; i < want.length; i++) {
            for (int what = 0; what < 3; what++) {
                e.is(name + ": ROW " + i + ", " + what, x.row(i, what), want[i][what]);
            }
        }
        e.is(name + ": behind the last", x.row(want.length, 0), -9);
    }

    private void seating() {
        e.says("3", "THE SEATING: of all with MOST: GROUP by GROUP, for each BOAT by BOAT, as many as can be.");
        rows("room for all in BOAT 0", two(10, 10, 20, 10), new int[] {0, 0, 10}, new int[] {1, 0, 10});
        rows("as many as leave room for the men", two(10, 10, 12, 10), new int[] {0, 0, 2}, new int[] {0, 1, 8}, new int[] {1, 0, 10});
        rows("none can be in BOAT 0", two(10, 10, 10, 10), new int[] {0, 1, 10}, new int[] {1, 0, 10});
        rows("one of them", two(10, 10, 10, 9), new int[] {0, 0, 1}, new int[] {0, 1, 9}, new int[] {1, 0, 9});
        rows("too few SEATS", two(10, 10, 10, 2), new int[] {0, 0, 8}, new int[] {0, 1, 2}, new int[] {1, 0, 2});
        HalfBoats x = new HalfBoats();
        x.group(10, 1, 0, 0);
        x.group(10, 0, 0, 0);
        x.group(10, 2, 0, 0);
        x.boat(15, 0, 0, 1);
        x.boat(15, 0, 0, 0);
        rows("what GROUP 0 has of BOAT 0, GROUP 1 has not", x, new int[] {0, 0, 5}, new int[] {0, 1, 5}, new int[] {1, 1, 10}, new int[] {2, 0, 10});
        HalfBoats y = new HalfBoats();
        y.group(10, 1, 0, 0);
        y.group(10, 2, 0, 0);
        y.group(10, 2, 1, 0);
        y.way(0, 1, 5, 0);
        y.boat(4, 0, 0, 1);
        y.boat(15, 1, 5, 1);
        y.boat(12, 0, 0, 0);
        // 4 and 15 for 20 men and 12 for 10 women: 29 at most, and no woman in BOAT 0 or 1 then.
        rows("GROUP 0 keeps out of BOATS 0 and 1", y, new int[] {0, 2, 10}, new int[] {1, 0, 4}, new int[] {1, 1, 6}, new int[] {2, 1, 9});
        for (int seats : new int[] {5, 9}) {
            HalfBoats z = new HalfBoats();
            z.way(0, 1, 5, 0);
            z.way(1, 2, 5, 0);
            z.group(5, 1, 0, 0);
            z.group(10, 1, 2, 0);
            z.group(4, 2, 1, 0);
            z.boat(seats, 0, 0, 1);
            z.boat(6, 1, 5, 1);
            z.boat(10, 2, 0, 0);
            rows("2 SEATS of BOAT 1 are left by the men, with " + seats, z, new int[] {0, 0, 5}, new int[] {1, 1, 2}, new int[] {1, 2, 8}, new int[] {2, 1, 4});
        }
        rows("GROUP 0 ahead of GROUP 1, as many with MOST", two(50, 50, 50, 1), new int[] {0, 0, 49}, new int[] {0, 1, 1}, new int[] {1, 0, 1});
    }

    private void rowsOfIt() {
        e.says("3", "ROWS of THE SEATING: (GROUP, BOAT, how many), by GROUPS, then BOATS, those above 0.");
        HalfBoats x = new HalfBoats();
        for (int i = 0; i < 10; i++) {
            x.group(50, 0, 0, 0);
        }
        for (int i = 0; i < 8; i++) {
            x.boat(65, 0, 0, 0);
        }
        // 50; 15 and 35; 30 and 20; 45 and 5; 50; 10 and 40; 25 and 25; 40 and 10; 50; 5 and 45.
        int[][] want = {{0, 0, 50}, {1, 0, 15}, {1, 1, 35}, {2, 1, 30}, {2, 2, 20}, {3, 2, 45}, {3, 3, 5}, {4, 3, 50}, {5, 3, 10}, {5, 4, 40}, {6, 4, 25},
            {6, 5, 25}, {7, 5, 40}, {7, 6, 10}, {8, 6, 50}, {9, 6, 5}, {9, 7, 45}};
        rows("all GROUPS, all BOATS", x, want);
        rows("none", new HalfBoats());
        HalfBoats y = new HalfBoats();
        for (int i = 0; i < 10; i++) {
            y.group(50, 0, i % 8, 0);
        }
        for (int i = 0; i < 8; i++) {
            y.boat(i < 4 ? 5 : 6, 0, 0, 0);
        }
        // GROUPS 0 and 8 alone are there: 44 SEATS, all for GROUP 0.
        int[][] eight = new int[8][];
        for (int i = 0; i < 8; i++) {
            eight[i] = new int[] {0, i, i < 4 ? 5 : 6};
        }
        rows("one GROUP in all BOATS", y, eight);
    }

    private void readerTakes() {
        e.says("3", "THE READER takes ROWS without looking for others:");
        HalfBoats x = two(10, 10, 12, 10);
        x.seat();
        x.alterRow(0, 2, 1);
        x.alterRow(1, 2, 1);
        x.alterRow(2, 2, 1);
        e.is("far fewer than MOST are right, too", x.judge(), 3);
        x.group(50, 0, 0, 0);
        x.boat(65, 0, 0, 1);
        e.is("a GROUP that has no ROW", x.judge(), 3);
        e.is("ROWS are as they were", x.many(11), 3);
        e.is("no ROWS", new HalfBoats().judge(), 0);
    }

    private void altered(String name, int i, int what, int v, int want) {
        HalfBoats x = two(10, 10, 12, 10);
        x.seat();
        x.alterRow(i, what, v);
        e.is(name, x.judge(), want);
    }

    private void rightThere() {
        e.says("3", "right is a ROW whose GROUP and BOAT there are,");
        int[] no = {MIN, -1, 2, 8, 10, MAX};
        for (int v : no) {
            altered("GROUP " + v, 0, 0, v, -100);
            altered("BOAT " + v, 0, 1, v, -100);
            altered("GROUP " + v + " in the last", 2, 0, v, -102);
            altered("BOAT " + v + " in the last", 2, 1, v, -102);
        }
        HalfBoats x = new HalfBoats();
        x.keep();
        x.group(5, 0, 0, 0);
        x.boat(5, 0, 0, 0);
        x.seat();
        x.again();
        e.is("GROUPS and BOATS that are gone", x.judge(), -100);
        HalfBoats w = new HalfBoats();
        for (int i = 0; i < 10; i++) {
            w.group(1, 0, 0, 0);
            w.boat(2, 0, 0, 0);
        }
        w.seat();
        for (int v = 8; v <= 12; v++) {
            int was = w.alterRow(9, v < 10 ? 1 : 0, v);
            e.is("all GROUPS and BOATS there can be, and " + v, w.judge(), -109);
            w.alterRow(9, v < 10 ? 1 : 0, was);
        }
        HalfBoats y = new HalfBoats();
        y.boat(5, 0, 0, 0);
        y.keep();
        y.group(5, 0, 0, 0);
        y.seat();
        e.is("both there", y.judge(), 5);
        y.again();
        e.is("the GROUP is gone", y.judge(), -100);
        HalfBoats z = new HalfBoats();
        z.group(5, 0, 0, 0);
        z.keep();
        z.boat(5, 0, 0, 0);
        z.seat();
        e.is("both there", z.judge(), 5);
        z.again();
        e.is("the BOAT is gone", z.judge(), -100);
    }

    private void rightRises() {
        e.says("3", "that rises above the ROW ahead (by GROUP, then BOAT),");
        HalfBoats x = new HalfBoats();
        x.group(10, 0, 0, 0);
        x.group(10, 0, 0, 0);
        for (int i = 0; i < 3; i++) {
            x.boat(5, 0, 0, 0);
        }
        x.seat();
        // (0, 0), (0, 1), (1, 2), with 5 each; 2 each leave room for any.
        for (int i = 0; i < 3; i++) {
            x.alterRow(i, 2, 2);
        }
        e.is("as it is", x.judge(), 6);
        x.alterRow(1, 1, 0);
        e.is("the same GROUP and BOAT", x.judge(), -101);
        x.alterRow(0, 1, 1);
        e.is("the same GROUP, a BOAT ahead", x.judge(), -101);
        x.alterRow(0, 1, 2);
        x.alterRow(1, 1, 1);
        e.is("the same GROUP, BOAT 1 behind BOAT 2", x.judge(), -101);
        x.alterRow(0, 1, 1);
        x.alterRow(1, 1, 2);
        e.is("the same GROUP, a BOAT behind", x.judge(), 6);
        x.alterRow(2, 1, 0);
        e.is("a GROUP behind, a BOAT ahead", x.judge(), 6);
        x.alterRow(2, 0, 0);
        e.is("GROUP 0 again, BOAT 0", x.judge(), -102);
        x.alterRow(0, 0, 1);
        e.is("a GROUP ahead, a BOAT behind", x.judge(), -101);
    }

    private void rightCan() {
        e.says("3", "whose GROUP CAN the BOAT,");
        altered("men in BOAT 1", 2, 1, 1, -102);
        HalfBoats x = new HalfBoats();
        x.group(5, 2, 0, 0);
        x.boat(5, 0, 0, 1);
        x.boat(5, 1, 0, 1);
        x.seat();
        e.is("as it is", x.judge(), 5);
        x.alterRow(0, 1, 1);
        e.is("where they don't come", x.judge(), -100);
        x.boat(5, 1, 1, 1);
        x.alterRow(0, 1, 2);
        e.is("nor there", x.judge(), -100);
        x.way(0, 1, 1, 0);
        e.is("but by a WAY", x.judge(), 5);
    }

    private void rightOneOrMore() {
        e.says("3", "with 1 or more,");
        altered("none", 0, 2, 0, -100);
        altered("below 0", 0, 2, -1, -100);
        altered("far below 0", 2, 2, MIN, -102);
        altered("one", 0, 2, 1, 19);
    }

    private void rightNoMore() {
        e.says("3", "and with which neither the GROUP nor the BOAT has more (by all ROWS up to it) than there are.");
        // 10 women: 2 in BOAT 0 (12), 8 in BOAT 1 (10); 10 men in BOAT 0.
        altered("3 and 8 women", 0, 2, 3, -101);
        altered("2 and 9 women", 1, 2, 9, -101);
        altered("11 women in the first", 0, 2, 11, -100);
        altered("13 in BOAT 0 in the first", 0, 2, 13, -100);
        altered("11 men", 2, 2, 11, -102);
        altered("far more", 1, 2, MAX, -101);
        altered("fewer", 1, 2, 7, 19);
        HalfBoats x = two(10, 10, 12, 10);
        x.seat();
        x.alterRow(0, 2, 3);
        x.alterRow(1, 2, 7);
        e.is("3 and 10 in BOAT 0", x.judge(), -102);
        x.alterRow(2, 2, 9);
        e.is("3 and 9 in BOAT 0", x.judge(), 19);
        x.alterRow(1, 2, MAX);
        x.alterRow(2, 2, MAX);
        e.is("sums that would wrap", x.judge(), -101);
    }

    private static HalfBoats six(int boats) {
        HalfBoats x = new HalfBoats();
        for (int i = 0; i < boats; i++) {
            x.boat(10, i, 0, 1);
        }
        return x;
    }

    private void orderAsTold() {
        e.says("3", "THE ORDER of some BOATS (bits; 6 at most): they are LOWERED one behind the other from NOW on, "
            + "each so many MINUTES (LABOUR, 1 to 30) behind the one ahead (the first that long behind NOW), READINGS and other BOATS as they are:");
        HalfBoats x = six(3);
        x.group(10, 2, 0, 100);
        x.minutes(90);
        e.is("the first is LOWERED in 99", x.order(1, 9, -1), 0);
        e.is("the first is LOWERED in 100", x.order(1, 10, -1), 10);
        e.is("the second is LOWERED in 98", x.order(3, 4, -1), 0);
        e.is("the second is LOWERED in 100", x.order(3, 5, -1), 10);
        e.is("the third is LOWERED in 99", x.order(7, 3, -1), 0);
        e.is("LABOUR 30", x.order(7, 30, -1), 10);
        e.bad("LABOUR 31", x.order(7, 31, -1));
        e.bad("LABOUR 0", x.order(7, 0, -1));
        x.boat(7, 0, 100, 1);
        e.is("another BOAT as it is", x.order(1, 9, -1), 7);
        e.is("BOATS stay as they were", x.most(), 7);
        HalfBoats y = new HalfBoats();
        y.boat(10, 0, 0, 0);
        y.group(10, 2, 0, 0);
        e.is("READING as it is", y.order(1, 30, -1), 0);
        HalfBoats z = new HalfBoats();
        z.boat(10, 0, 0, 1);
        z.group(10, 2, 0, 999);
        for (int i = 0; i < 5; i++) {
            z.minutes(i < 4 ? 200 : 199);
        }
        e.is("behind MINUTE 999", z.order(1, 30, -1), 10);
    }

    private void orderGreatest() {
        e.says("3", "the order for which MOST is greatest;");
        HalfBoats x = six(6);
        // Each GROUP comes to its BOAT just as the one MINUTE is there: 5, 4, 3, 2, 1, 0 is the only order for all.
        for (int i = 0; i < 6; i++) {
            x.group(10, 0, i, 6 - i);
        }
        e.is("all", x.order(63, 1, -1), 60);
        for (int i = 0; i < 6; i++) {
            e.is("the " + i + "-th", x.order(63, 1, i), 5 - i);
        }
    }

    private void orderFirst() {
        e.says("3", "of several the first by numbers.");
        HalfBoats x = six(8);
        for (int i = 0; i < 6; i++) {
            e.is("no GROUPS: by numbers", x.order(0b11101101, 1, i), new int[] {0, 2, 3, 5, 6, 7}[i]);
        }
        x.group(10, 0, 2, 3);
        int[] want = {0, 3, 2, 5, 6, 7};
        for (int i = 0; i < 6; i++) {
            e.is("BOAT 2 as the third or later", x.order(0b11101101, 1, i), want[i]);
        }
        // Three GROUPS come to their BOATS only if these are LOWERED last: BOAT 0 and BOAT 1 last are worth the same.
        HalfBoats y = six(3);
        y.group(10, 0, 0, 30);
        y.group(10, 0, 1, 30);
        y.group(5, 0, 2, 30);
        e.is("ten", y.order(7, 10, -1), 10);
        for (int i = 0; i < 3; i++) {
            e.is("0, 2, 1, not 1, 2, 0", y.order(7, 10, i), new int[] {0, 2, 1}[i]);
        }
    }

    private void most() {
        e.says("P16", "MOST.");
        HalfBoats x = new HalfBoats();
        e.is("nobody, no BOATS", x.most(), 0);
        x.boat(65, 0, 0, 1);
        e.is("nobody", x.most(), 0);
        HalfBoats y = new HalfBoats();
        y.group(50, 0, 0, 0);
        e.is("no BOATS", y.most(), 0);
        y.boat(65, 0, 0, 1);
        e.is("all", y.most(), 50);
        e.is("no ROWS come by it", y.many(11), 0);
    }

    private void seat() {
        e.says("P17", "ROWS become those of THE SEATING: how many.");
        HalfBoats x = two(10, 10, 12, 10);
        e.is("three", x.seat(), 3);
        e.is("many(11)", x.many(11), 3);
        x.alterRow(0, 2, 99);
        e.is("again", x.seat(), 3);
        e.is("as they were", x.row(0, 2), 2);
        HalfBoats y = new HalfBoats();
        e.is("none", y.seat(), 0);
        y.keep();
        y.group(1, 0, 0, 0);
        y.boat(1, 0, 0, 0);
        e.is("one", y.seat(), 1);
        y.again();
        e.is("ROWS stay", y.many(11), 1);
        e.is("none any more", y.seat(), 0);
        e.is("many(11)", y.many(11), 0);
    }

    private void row() {
        e.says("P18", "Of ROW i: what = 0 the GROUP, 1 the BOAT, 2 how many.");
        HalfBoats x = two(10, 10, 12, 10);
        x.seat();
        e.is("GROUP", x.row(1, 0), 0);
        e.is("BOAT", x.row(1, 1), 1);
        e.is("how many", x.row(1, 2), 8);
    }

    private void rowNone() {
        e.says("P18", "-9: there is none such, another what.");
        HalfBoats x = two(10, 10, 12, 10);
        e.is("no ROWS yet", x.row(0, 0), -9);
        x.seat();
        int[][] no = {{-1, 0}, {3, 0}, {MIN, 0}, {MAX, 0}, {0, -1}, {0, 3}, {2, MIN}, {2, MAX}};
        for (int[] n : no) {
            e.is("row(" + n[0] + ", " + n[1] + ")", x.row(n[0], n[1]), -9);
        }
    }

    private void alterRow() {
        e.says("P19", "It becomes v: what it was.");
        HalfBoats x = two(10, 10, 12, 10);
        x.seat();
        int[] values = {0, -9, MIN, MAX, 1000};
        int was = 8;
        for (int v : values) {
            e.is("what it was", x.alterRow(1, 2, v), was);
            e.is("what it is", x.row(1, 2), v);
            was = v;
        }
        e.is("the others are as they were", x.row(0, 2) * 100 + x.row(2, 2), 210);
    }

    private void alterRowNone() {
        e.says("P19", "-9 likewise.");
        HalfBoats x = two(10, 10, 12, 10);
        e.is("no ROWS yet", x.alterRow(0, 0, 5), -9);
        x.seat();
        int[][] no = {{-1, 0}, {3, 0}, {MIN, 0}, {MAX, 0}, {0, -1}, {0, 3}, {2, MIN}, {2, MAX}};
        for (int[] n : no) {
            e.is("alterRow(" + n[0] + ", " + n[1] + ", 5)", x.alterRow(n[0], n[1], 5), -9);
        }
        e.is("all as they were", x.judge(), 20);
    }

    private void judge() {
        e.says("P20", "THE READER: how many are in SEATS by ROWS, if they are right;");
        HalfBoats x = two(10, 10, 12, 10);
        e.is("no ROWS", x.judge(), 0);
        x.seat();
        e.is("all", x.judge(), 20);
        x.alterRow(1, 2, 1);
        e.is("fewer", x.judge(), 13);
    }

    private void judgeWrong() {
        e.says("P20", "else -100 less the first that isn't.");
        HalfBoats x = two(10, 10, 12, 10);
        x.seat();
        x.alterRow(2, 2, 0);
        e.is("the third", x.judge(), -102);
        x.alterRow(1, 2, 0);
        e.is("the second and the third", x.judge(), -101);
        x.alterRow(0, 2, 0);
        e.is("all", x.judge(), -100);
        x.alterRow(1, 2, 8);
        x.alterRow(2, 2, 10);
        e.is("the first alone", x.judge(), -100);
    }

    private void order() {
        e.says("P21", "THE ORDER of BOATS with LABOUR: what = -1 MOST by it, else the BOAT that is LOWERED as the what-th (from 0;");
        HalfBoats x = six(2);
        x.group(10, 0, 0, 15);
        x.group(10, 0, 1, 0);
        e.is("MOST by it", x.order(3, 10, -1), 20);
        e.is("the first", x.order(3, 10, 0), 1);
        e.is("the second", x.order(3, 10, 1), 0);
        e.is("one alone", x.order(2, 10, 0), 1);
    }

    private void orderNone() {
        e.says("P21", "NONE: no such).");
        HalfBoats x = six(8);
        e.none("the second of one", x.order(128, 1, 1));
        e.none("the seventh of six", x.order(63, 1, 6));
        e.none("far behind", x.order(63, 1, MAX));
        e.is("the sixth of six", x.order(63, 1, 5), 5);
    }

    private void orderBad() {
        e.says("P21", "BAD: a bit of none, no BOAT, LABOUR, what below -1;");
        e.bad("no BOATS there", new HalfBoats().order(1, 1, -1));
        HalfBoats x = six(3);
        int[][] no = {{8, 1, -1}, {9, 1, -1}, {MIN, 1, -1}, {MAX, 1, -1}, {-1, 1, -1}, {0, 1, -1}, {0, 1, 0}, {0, 1, MAX}, {8, 1, 9}, {7, 0, -1}, {7, -1, -1}, {7, 31, -1}, {7, MIN, -1},
            {7, MAX, -1}, {7, 1, -2}, {7, 1, MIN}};
        for (int[] n : no) {
            e.bad("order(" + n[0] + ", " + n[1] + ", " + n[2] + ")", x.order(n[0], n[1], n[2]));
        }
        e.bad("bit 8 of eight", six(8).order(256, 1, -1));
    }

    private void orderFull() {
        e.says("P21", "FULL: more than 6.");
        HalfBoats x = six(8);
        e.full("seven", x.order(127, 1, -1));
        e.full("seven others", x.order(254, 1, 0));
        e.full("eight", x.order(255, 30, 7));
        e.is("six", x.order(252, 1, -1), 0);
    }
}
