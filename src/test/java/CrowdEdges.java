/** 'Terms' 3 as far as BOATS, and promises 11 to 15, sentence by sentence. */
final class CrowdEdges {
    private static final int MIN = Integer.MIN_VALUE;
    private static final int MAX = Integer.MAX_VALUE;

    private final Edges e;

    CrowdEdges(Edges e) {
        this.e = e;
    }

    void all() {
        places();
        waysAsTold();
        groupsAsTold();
        fromWhenTold();
        waits();
        earliest();
        boatsAsTold();
        canAsTold();
        way();
        wayBad();
        wayFull();
        group();
        groupBad();
        groupFull();
        reach();
        reachBad();
        reachNone();
        boat();
        boatBad();
        boatFull();
        can();
        canBad();
    }

    private void places() {
        e.says("3", "PLACES 0 to 7.");
        HalfBoats x = new HalfBoats();
        int[] no = {MIN, -1, 8, MAX};
        for (int p : no) {
            e.bad("way from " + p, x.way(p, 0, 1, 0));
            e.bad("way to " + p, x.way(0, p, 1, 0));
            e.bad("group in " + p, x.group(1, 0, p, 0));
            e.bad("boat in " + p, x.boat(1, p, 0, 0));
        }
        for (int p = 0; p < 8; p++) {
            e.is("way from " + p, x.way(p, 7 - p, 1, 0), p);
            e.is("group in " + p, x.group(1, 0, p, 0), p);
            e.is("boat in " + p, x.boat(1, p, 0, 0), p);
        }
        for (int p : no) {
            e.bad("reach of " + p, x.reach(0, p));
        }
    }

    private void waysAsTold() {
        e.says("3", "WAYS, 12 at most, numbered as they come, join two PLACES both ways: MINUTES (1 to 20), shut till a MINUTE (0: never shut).");
        HalfBoats x = new HalfBoats();
        x.group(1, 0, 2, 0);
        x.group(1, 0, 5, 0);
        e.bad("MINUTES 0", x.way(2, 5, 0, 0));
        e.bad("MINUTES 21", x.way(2, 5, 21, 0));
        e.is("MINUTES 20", x.way(2, 5, 20, 0), 0);
        e.is("there", x.reach(0, 5), 20);
        e.is("and back", x.reach(1, 2), 20);
        e.is("MINUTES 1", x.way(5, 2, 1, 0), 1);
        e.is("there", x.reach(0, 5), 1);
        e.is("and back", x.reach(1, 2), 1);
        for (int i = 2; i < 12; i++) {
            e.is("number", x.way(0, 1, 20, 999), i);
        }
        e.full("the 13th", x.way(0, 1, 20, 999));
        e.is("how many", x.many(2), 12);
    }

    private void groupsAsTold() {
        e.says("3", "GROUPS, 10 at most, numbered as they come: n persons (1 to 50) of a KIND (0 children, 1 women, 2 men) in a PLACE, TOLD in a MINUTE.");
        HalfBoats x = new HalfBoats();
        e.bad("no person", x.group(0, 0, 0, 0));
        e.bad("51 persons", x.group(51, 0, 0, 0));
        e.bad("KIND -1", x.group(1, -1, 0, 0));
        e.bad("KIND 3", x.group(1, 3, 0, 0));
        for (int i = 0; i < 10; i++) {
            e.is("number", x.group(i % 2 == 0 ? 1 : 50, i % 3, i % 8, 999), i);
        }
        e.full("the 11th", x.group(1, 0, 0, 0));
        e.is("how many", x.many(3), 10);
        e.is("persons", x.many(15), 255);
    }

    private void fromWhenTold() {
        e.says("3", "REACH of a PLACE: they go from when they are TOLD on;");
        HalfBoats x = new HalfBoats();
        x.way(0, 1, 7, 0);
        x.group(1, 0, 0, 0);
        x.group(1, 0, 0, 500);
        x.minutes(200);
        e.is("TOLD in 0, whatever NOW is", x.reach(0, 1), 7);
        e.is("TOLD in 500", x.reach(1, 1), 507);
        e.is("where they are: when they are TOLD", x.reach(1, 0), 500);
    }

    private void waits() {
        e.says("3", "who comes to a WAY that is shut waits till its MINUTE;");
        int[] till = {0, 9, 10, 11, 999};
        int[] want = {15, 15, 15, 16, 1004};
        for (int i = 0; i < till.length; i++) {
            HalfBoats x = new HalfBoats();
            x.way(0, 1, 5, till[i]);
            x.group(1, 0, 0, 10);
            e.is("TOLD in 10, shut till " + till[i], x.reach(0, 1), want[i]);
        }
        HalfBoats y = new HalfBoats();
        y.way(0, 1, 5, 20);
        y.way(1, 2, 5, 26);
        y.group(1, 0, 0, 0);
        e.is("waits twice: till 20, till 26", y.reach(0, 2), 31);
    }

    private void earliest() {
        e.says("3", "the earliest MINUTE.");
        HalfBoats x = new HalfBoats();
        x.group(1, 0, 0, 0);
        x.way(0, 7, 20, 0);
        x.way(0, 1, 4, 0);
        x.way(1, 7, 15, 0);
        e.is("two WAYS are sooner than one", x.reach(0, 7), 19);
        x.way(0, 7, 1, 18);
        e.is("no sooner by waiting", x.reach(0, 7), 19);
        x.way(0, 7, 1, 17);
        e.is("sooner by waiting", x.reach(0, 7), 18);
        HalfBoats y = new HalfBoats();
        for (int p = 7; p > 0; p--) {
            y.way(p, p - 1, 20, 0);
        }
        y.group(1, 0, 0, 999);
        e.is("over all PLACES", y.reach(0, 7), 999 + 140);
    }

    private void boatsAsTold() {
        e.says("3", "BOATS, 8 at most, numbered as they come: SEATS (1 to 65), in a PLACE, LOWERED in a MINUTE (0 to 999), by a READING: 0: KINDS 0 and 1 alone, 1: all.");
        HalfBoats x = new HalfBoats();
        e.bad("no SEAT", x.boat(0, 0, 0, 0));
        e.bad("66 SEATS", x.boat(66, 0, 0, 0));
        e.bad("LOWERED in -1", x.boat(1, 0, -1, 0));
        e.bad("LOWERED in 1000", x.boat(1, 0, 1000, 0));
        e.bad("READING -1", x.boat(1, 0, 0, -1));
        e.bad("READING 2", x.boat(1, 0, 0, 2));
        for (int i = 0; i < 8; i++) {
            e.is("number", x.boat(i % 2 == 0 ? 65 : 1, 0, i % 3 == 0 ? 0 : 999, i % 2), i);
        }
        e.full("the ninth", x.boat(1, 0, 0, 0));
        e.is("how many", x.many(4), 8);
        for (int kind = 0; kind < 3; kind++) {
            x.group(1, kind, 0, 0);
            e.is("READINGS let KIND " + kind, x.can(kind), kind == 2 ? 0b10101010 : 255);
        }
    }

    private void canAsTold() {
        e.says("3", "A GROUP CAN a BOAT whose PLACE they REACH in its MINUTE or ahead, and whose READING lets their KIND.");
        HalfBoats x = new HalfBoats();
        x.way(0, 1, 5, 0);
        x.group(1, 2, 0, 10);
        x.boat(1, 1, 14, 1);
        x.boat(1, 1, 15, 1);
        x.boat(1, 1, 16, 1);
        x.boat(1, 1, 999, 0);
        x.boat(1, 0, 9, 1);
        x.boat(1, 0, 10, 1);
        x.boat(1, 2, 999, 1);
        e.is("in its MINUTE, or ahead", x.can(0), 0b100110);
        HalfBoats y = new HalfBoats();
        y.way(0, 1, 1, 999);
        y.group(1, 0, 0, 0);
        y.boat(1, 1, 999, 1);
        e.is("REACH is 1000, no BOAT waits", y.can(0), 0);
        HalfBoats z = new HalfBoats();
        z.way(0, 1, 1, 998);
        z.group(1, 0, 0, 0);
        z.boat(1, 1, 999, 1);
        e.is("REACH is 999", z.can(0), 1);
    }

    private void way() {
        e.says("P11", "A WAY: its number.");
        HalfBoats x = new HalfBoats();
        e.is("the first", x.way(0, 7, 1, 0), 0);
        e.is("the same again", x.way(0, 7, 1, 0), 1);
        e.is("the other way round", x.way(7, 0, 20, 999), 2);
    }

    private void wayBad() {
        e.says("P11", "BAD: also from a PLACE to itself;");
        HalfBoats x = new HalfBoats();
        for (int p = 0; p < 8; p++) {
            e.bad("to itself", x.way(p, p, 1, 0));
        }
        int[][] no = {{-1, 0, 1, 0}, {8, 0, 1, 0}, {0, -1, 1, 0}, {0, 8, 1, 0}, {0, 1, 0, 0}, {0, 1, -1, 0}, {0, 1, 21, 0}, {0, 1, 1, -1}, {0, 1, 1, 1000},
            {MIN, 0, 1, 0}, {0, MAX, 1, 0}, {0, 1, MIN, 0}, {0, 1, MAX, 0}, {0, 1, 1, MIN}, {0, 1, 1, MAX}, {-1, -1, 1, 0}, {8, 8, 1, 0}};
        for (int[] n : no) {
            e.bad("way(" + n[0] + ", " + n[1] + ", " + n[2] + ", " + n[3] + ")", x.way(n[0], n[1], n[2], n[3]));
        }
        e.is("none came", x.many(2), 0);
    }

    private void wayFull() {
        e.says("P11", "FULL.");
        HalfBoats x = new HalfBoats();
        for (int i = 0; i < 11; i++) {
            x.way(0, 1, 1, 0);
        }
        e.is("the 12th", x.way(0, 1, 1, 0), 11);
        e.full("the 13th", x.way(0, 1, 1, 0));
        e.is("how many", x.many(2), 12);
    }

    private void group() {
        e.says("P12", "A GROUP: its number.");
        HalfBoats x = new HalfBoats();
        e.is("the first", x.group(1, 0, 0, 0), 0);
        e.is("the same again", x.group(1, 0, 0, 0), 1);
        e.is("another", x.group(50, 2, 7, 999), 2);
    }

    private void groupBad() {
        e.says("P12", ". BAD;");
        HalfBoats x = new HalfBoats();
        int[][] no = {{0, 0, 0, 0}, {-1, 0, 0, 0}, {51, 0, 0, 0}, {MIN, 0, 0, 0}, {MAX, 0, 0, 0}, {1, -1, 0, 0}, {1, 3, 0, 0}, {1, MIN, 0, 0}, {1, MAX, 0, 0},
            {1, 0, -1, 0}, {1, 0, 8, 0}, {1, 0, MIN, 0}, {1, 0, MAX, 0}, {1, 0, 0, -1}, {1, 0, 0, 1000}, {1, 0, 0, MIN}, {1, 0, 0, MAX}};
        for (int[] n : no) {
            e.bad("group(" + n[0] + ", " + n[1] + ", " + n[2] + ", " + n[3] + ")", x.group(n[0], n[1], n[2], n[3]));
        }
        e.is("none came", x.many(3), 0);
    }

    private void groupFull() {
        e.says("P12", "FULL.");
        HalfBoats x = new HalfBoats();
        for (int i = 0; i < 9; i++) {
            x.group(1, 0, 0, 0);
        }
        e.is("the tenth", x.group(1, 0, 0, 0), 9);
        e.full("the 11th", x.group(1, 0, 0, 0));
        e.is("how many", x.many(3), 10);
    }

    private void reach() {
        e.says("P13", "REACH of a GROUP to a PLACE (it may be above 999).");
        HalfBoats x = new HalfBoats();
        x.group(1, 0, 0, 979);
        x.group(1, 0, 0, 980);
        x.way(0, 1, 20, 0);
        x.way(1, 2, 20, 0);
        e.is("999", x.reach(0, 1), 999);
        e.is("1000", x.reach(1, 1), 1000);
        e.is("1020", x.reach(1, 2), 1020);
    }

    private void reachBad() {
        e.says("P13", ". BAD;");
        HalfBoats x = new HalfBoats();
        e.bad("no GROUP", x.reach(0, 0));
        x.group(1, 0, 0, 0);
        int[][] no = {{-1, 0}, {1, 0}, {MIN, 0}, {MAX, 0}, {0, -1}, {0, 8}, {0, MIN}, {0, MAX}};
        for (int[] n : no) {
            e.bad("reach(" + n[0] + ", " + n[1] + ")", x.reach(n[0], n[1]));
        }
    }

    private void reachNone() {
        e.says("P13", "NONE: there is no way.");
        HalfBoats x = new HalfBoats();
        x.group(1, 0, 0, 0);
        for (int p = 1; p < 8; p++) {
            e.none("without WAYS", x.reach(0, p));
        }
        x.way(1, 2, 1, 0);
        e.none("a WAY elsewhere", x.reach(0, 2));
        x.way(2, 0, 1, 0);
        e.is("now there is", x.reach(0, 1), 2);
    }

    private void boat() {
        e.says("P14", "A BOAT: its number.");
        HalfBoats x = new HalfBoats();
        e.is("the first", x.boat(1, 0, 0, 0), 0);
        e.is("the same again", x.boat(1, 0, 0, 0), 1);
        e.is("another", x.boat(65, 7, 999, 1), 2);
    }

    private void boatBad() {
        e.says("P14", ". BAD;");
        HalfBoats x = new HalfBoats();
        int[][] no = {{0, 0, 0, 0}, {-1, 0, 0, 0}, {66, 0, 0, 0}, {MIN, 0, 0, 0}, {MAX, 0, 0, 0}, {1, -1, 0, 0}, {1, 8, 0, 0}, {1, MIN, 0, 0}, {1, MAX, 0, 0},
            {1, 0, -1, 0}, {1, 0, 1000, 0}, {1, 0, MIN, 0}, {1, 0, MAX, 0}, {1, 0, 0, -1}, {1, 0, 0, 2}, {1, 0, 0, MIN}, {1, 0, 0, MAX}};
        for (int[] n : no) {
            e.bad("boat(" + n[0] + ", " + n[1] + ", " + n[2] + ", " + n[3] + ")", x.boat(n[0], n[1], n[2], n[3]));
        }
        e.is("none came", x.many(4), 0);
    }

    private void boatFull() {
        e.says("P14", "FULL.");
        HalfBoats x = new HalfBoats();
        for (int i = 0; i < 7; i++) {
            x.boat(1, 0, 0, 0);
        }
        e.is("the eighth", x.boat(1, 0, 0, 0), 7);
        e.full("the ninth", x.boat(1, 0, 0, 0));
        e.is("how many", x.many(4), 8);
    }

    private void can() {
        e.says("P15", "BOATS that a GROUP CAN, as bits.");
        HalfBoats x = new HalfBoats();
        x.group(1, 0, 0, 0);
        e.is("no BOATS", x.can(0), 0);
        for (int i = 0; i < 8; i++) {
            x.boat(1, i % 2, 0, 0);
        }
        e.is("every other one", x.can(0), 0b01010101);
        x.group(1, 0, 1, 0);
        e.is("the others", x.can(1), 0b10101010);
    }

    private void canBad() {
        e.says("P15", ". BAD.");
        HalfBoats x = new HalfBoats();
        e.bad("no GROUP", x.can(0));
        x.group(1, 0, 0, 0);
        int[] no = {MIN, -1, 1, MAX};
        for (int g : no) {
            e.bad("can(" + g + ")", x.can(g));
        }
    }
}
