/** 'Terms' 4 and promises 22 to 29, sentence by sentence. */
final class SeaEdges {
    private static final int MIN = Integer.MIN_VALUE;
    private static final int MAX = Integer.MAX_VALUE;

    private final Edges e;

    SeaEdges(Edges e) {
        this.e = e;
    }

    void all() {
        shipsAsTold();
        we();
        far();
        callsAsTold();
        hearsAsTold();
        comesAsTold();
        lightsAsTold();
        stands();
        sureAsTold();
        ship();
        at();
        ears();
        shipBad();
        shipFull();
        ready();
        readyBad();
        call();
        callBad();
        callFull();
        hears();
        hearsBad();
        comes();
        comesBad();
        comesNone();
        light();
        lightBad();
        lightFull();
        mayBe();
        mayBeBad();
        sure();
        sureBad();
        sureNone();
    }

    /** One SHIP with ears always on, and one CALL. */
    private static HalfBoats one(int at, int speed, int range, int call) {
        HalfBoats x = new HalfBoats();
        x.ship(at, speed, 999, range);
        x.call(call);
        return x;
    }

    private void shipsAsTold() {
        e.says("4", "SHIPS, 6 at most, numbered as they come: at X, Y (0 to 99 each), SPEED (1 to 40), with ears on from a MINUTE to another one, "
            + "that hear as far as RANGE (0 to 200).");
        HalfBoats x = new HalfBoats();
        e.bad("X, Y below 0", x.ship(-1, 1, 0, 0));
        e.bad("X 100", x.ship(10000, 1, 0, 0));
        e.bad("SPEED 0", x.ship(0, 0, 0, 0));
        e.bad("SPEED 41", x.ship(0, 41, 0, 0));
        e.bad("RANGE -1", x.ship(0, 1, 0, -1));
        e.bad("RANGE 201", x.ship(0, 1, 0, 201));
        for (int i = 0; i < 6; i++) {
            e.is("number", x.ship(i % 2 * 9999, i % 2 == 0 ? 1 : 40, i % 2 * 999999, i % 2 * 200), i);
        }
        e.full("the seventh", x.ship(0, 1, 0, 0));
        e.is("how many", x.many(5), 6);
    }

    private void we() {
        e.says("4", "WE are at 50, 50.");
        e.is("a SHIP at 50, 50 is 0 FAR", one(5050, 1, 0, 0).hears(0), 1);
        e.is("a SHIP at 50, 51 is not", one(5051, 1, 0, 0).hears(0), 0);
        e.is("a SHIP at 49, 50 is not", one(4950, 1, 0, 0).hears(0), 0);
    }

    private void far() {
        e.says("4", "FAR: the differences of X and of Y, added.");
        int[][] cases = {{0, 100}, {99, 99}, {9900, 99}, {9999, 98}, {5050, 0}, {5049, 1}, {5150, 1}, {4060, 20}, {6040, 20}, {6060, 20}, {4040, 20}};
        for (int[] c : cases) {
            e.is("as far as " + c[1] + " at " + c[0], one(c[0], 1, c[1], 0).hears(0), 1);
            if (c[1] > 0) {
                e.is("not as far as " + (c[1] - 1) + " at " + c[0], one(c[0], 1, c[1] - 1, 0).hears(0), 0);
            }
        }
    }

    private void callsAsTold() {
        e.says("4", "CALLS, 10 at most, each in a MINUTE (as they come, in any order).");
        HalfBoats x = new HalfBoats();
        x.ship(5050, 1, 999, 0);
        x.ready(0);
        int[] minutes = {999, 500, 500, 700, 20, 30, 0, 999, 1, 2};
        int[] comes = {999, 500, 500, 500, 20, 20, 0, 0, 0, 0};
        for (int i = 0; i < 10; i++) {
            e.is("number", x.call(minutes[i]), i);
            e.is("the earliest of any order", x.comes(0), comes[i]);
        }
        e.full("the 11th", x.call(0));
        e.is("how many", x.many(6), 10);
    }

    private void hearsAsTold() {
        e.says("4", "A SHIP HEARS a CALL in whose MINUTE its ears are on (both ends, too), and that is at most RANGE FAR.");
        HalfBoats x = new HalfBoats();
        x.ship(5060, 1, 20030, 10);
        x.ship(5060, 1, 20030, 9);
        x.ship(5060, 1, 20020, 11);
        x.ship(5060, 1, 0, 200);
        x.ship(5060, 1, 999999, 200);
        int[] minutes = {19, 20, 21, 30, 31, 0, 1, 998, 999};
        int[] want = {0, 0b101, 1, 1, 0, 0b1000, 0, 0, 0b10000};
        for (int i = 0; i < minutes.length; i++) {
            x.call(minutes[i]);
            e.is("a CALL in " + minutes[i], x.hears(i), want[i]);
        }
    }

    private void comesAsTold() {
        e.says("4", "It COMES, READY (0 to 60; 10 at first) MINUTES behind the earliest CALL that it HEARS, and 10 times FAR by SPEED, up, more.");
        int[][] cases = {{5050, 40, 0}, {5051, 40, 1}, {5054, 40, 1}, {5055, 40, 2}, {5057, 7, 10}, {5057, 8, 9}, {5057, 9, 8}, {0, 1, 1000}, {0, 40, 25}, {0, 39, 26}};
        for (int[] c : cases) {
            HalfBoats x = one(c[0], c[1], 200, 100);
            e.is("at " + c[0] + " with " + c[1], x.comes(0), 110 + c[2]);
            e.is("READY at first", x.ready(0), 10);
            e.is("READY 0", x.comes(0), 100 + c[2]);
            x.ready(60);
            e.is("READY 60", x.comes(0), 160 + c[2]);
        }
        HalfBoats y = new HalfBoats();
        y.ship(5050, 1, 20030, 0);
        y.call(19);
        y.call(30);
        y.call(25);
        e.is("the earliest that it HEARS", y.comes(0), 35);
    }

    private void lightsAsTold() {
        e.says("4", "LIGHTS, 8 at most: seen in a MINUTE, from so FAR to so FAR.");
        HalfBoats x = new HalfBoats();
        x.ship(5060, 1, 999, 0);
        int[][] seen = {{10, 10, 1}, {0, 200, 1}, {0, 10, 1}, {10, 200, 1}, {0, 9, 0}, {11, 200, 0}, {0, 0, 0}, {200, 200, 0}};
        for (int i = 0; i < 8; i++) {
            e.is("number", x.light(i == 0 ? 0 : 999, seen[i][0], seen[i][1]), i);
            e.is("from " + seen[i][0] + " to " + seen[i][1], x.mayBe(i), seen[i][2]);
        }
        e.full("the ninth", x.light(0, 0, 0));
        e.is("how many", x.many(7), 8);
    }

    private void stands() {
        e.says("4", "A SHIP stands where it is till READY is over behind the earliest CALL that it HEARS, "
            + "then it comes nearer by SPEED times the MINUTES since by 10, cut (0 at least).");
        // 20 FAR, SPEED 7, a CALL in 100: MINUTE, and how FAR it is then.
        int[][] cases = {{0, 20}, {99, 20}, {100, 20}, {109, 20}, {110, 20}, {111, 20}, {112, 19}, {113, 18}, {120, 13}, {138, 1}, {139, 0}, {140, 0}, {999, 0}};
        for (int[] c : cases) {
            HalfBoats x = one(5070, 7, 20, 100);
            x.light(c[0], c[1], c[1]);
            e.is("in " + c[0] + " it is " + c[1] + " FAR", x.mayBe(0), 1);
        }
        HalfBoats y = one(5070, 7, 19, 100);
        y.light(999, 20, 20);
        e.is("one that HEARS none stands", y.mayBe(0), 1);
        HalfBoats z = one(5070, 40, 20, 998);
        z.ready(0);
        z.light(999, 16, 16);
        e.is("a MINUTE since", z.mayBe(0), 1);
        z.ready(1);
        e.is("READY till 999", z.mayBe(0), 0);
    }

    private void sureAsTold() {
        e.says("4", "A LIGHT CAN be a SHIP that is so FAR then: SURE one, if one alone.");
        HalfBoats x = new HalfBoats();
        x.light(0, 10, 20);
        e.is("no SHIP", x.mayBe(0), 0);
        e.none("no SHIP", x.sure(0));
        x.ship(5059, 1, 0, 0);
        e.none("none so FAR", x.sure(0));
        x.ship(5060, 1, 0, 0);
        e.is("one", x.mayBe(0), 2);
        e.is("one", x.sure(0), 1);
        x.ship(5070, 1, 0, 0);
        e.is("two", x.mayBe(0), 6);
        e.none("two", x.sure(0));
    }

    private void ship() {
        e.says("P22", "A SHIP: its number.");
        HalfBoats x = new HalfBoats();
        e.is("the first", x.ship(0, 1, 0, 0), 0);
        e.is("the same again", x.ship(0, 1, 0, 0), 1);
        e.is("another", x.ship(9999, 40, 999999, 200), 2);
    }

    private void at() {
        e.says("P22", "at: 100 times X, and Y;");
        // X 50, Y 0 is 50 FAR; X 0, Y 50, too; X 99, Y 99 is 98 FAR; X 0, Y 99 is 99 FAR.
        int[][] cases = {{5000, 50}, {50, 50}, {9999, 98}, {99, 99}, {9900, 99}, {100, 99}, {1, 99}};
        for (int[] c : cases) {
            HalfBoats x = new HalfBoats();
            e.is("at " + c[0], x.ship(c[0], 1, 0, 0), 0);
            x.light(0, c[1], c[1]);
            e.is("at " + c[0] + " is " + c[1] + " FAR", x.sure(0), 0);
        }
    }

    private void ears() {
        e.says("P22", "ears: 1000 times the first MINUTE, and the last (not ahead of it).");
        HalfBoats x = new HalfBoats();
        e.is("0 to 0", x.ship(0, 1, 0, 0), 0);
        e.is("0 to 999", x.ship(0, 1, 999, 0), 1);
        e.bad("1 to 0", x.ship(0, 1, 1000, 0));
        e.is("1 to 1", x.ship(0, 1, 1001, 0), 2);
        e.bad("999 to 998", x.ship(0, 1, 999998, 0));
        e.is("999 to 999", x.ship(0, 1, 999999, 0), 3);
        e.bad("1000 to 0", x.ship(0, 1, 1000000, 0));
        e.bad("1000 to 999", x.ship(0, 1, 1000999, 0));
        e.bad("below 0", x.ship(0, 1, -1, 0));
        e.bad("20 to 10", x.ship(0, 1, 20010, 0));
        e.is("10 to 20", x.ship(0, 1, 10020, 0), 4);
    }

    private void shipBad() {
        e.says("P22", ". BAD;");
        HalfBoats x = new HalfBoats();
        int[][] no = {{-1, 1, 0, 0}, {10000, 1, 0, 0}, {MIN, 1, 0, 0}, {MAX, 1, 0, 0}, {0, 0, 0, 0}, {0, 41, 0, 0}, {0, MIN, 0, 0}, {0, MAX, 0, 0},
            {0, 1, MIN, 0}, {0, 1, MAX, 0}, {0, 1, 0, -1}, {0, 1, 0, 201}, {0, 1, 0, MIN}, {0, 1, 0, MAX}};
        for (int[] n : no) {
            e.bad("ship(" + n[0] + ", " + n[1] + ", " + n[2] + ", " + n[3] + ")", x.ship(n[0], n[1], n[2], n[3]));
        }
        e.is("none came", x.many(5), 0);
    }

    private void shipFull() {
        e.says("P22", "FULL.");
        HalfBoats x = new HalfBoats();
        for (int i = 0; i < 5; i++) {
            x.ship(0, 1, 0, 0);
        }
        e.is("the sixth", x.ship(0, 1, 0, 0), 5);
        e.full("the seventh", x.ship(0, 1, 0, 0));
        e.is("how many", x.many(5), 6);
    }

    private void ready() {
        e.says("P23", "READY: what it was.");
        HalfBoats x = new HalfBoats();
        e.is("10 at first", x.ready(0), 10);
        e.is("0", x.ready(60), 0);
        e.is("60", x.ready(30), 60);
        e.is("30", x.ready(30), 30);
    }

    private void readyBad() {
        e.says("P23", ". BAD.");
        HalfBoats x = new HalfBoats();
        int[] no = {MIN, -1, 61, MAX};
        for (int n : no) {
            e.bad("ready(" + n + ")", x.ready(n));
        }
        e.is("as it was", x.ready(10), 10);
    }

    private void call() {
        e.says("P24", "A CALL: its number.");
        HalfBoats x = new HalfBoats();
        e.is("the first", x.call(999), 0);
        e.is("one ahead of it", x.call(0), 1);
        e.is("the same again", x.call(0), 2);
    }

    private void callBad() {
        e.says("P24", ". BAD;");
        HalfBoats x = new HalfBoats();
        int[] no = {MIN, -1, 1000, MAX};
        for (int m : no) {
            e.bad("call(" + m + ")", x.call(m));
        }
        e.is("none came", x.many(6), 0);
    }

    private void callFull() {
        e.says("P24", "FULL.");
        HalfBoats x = new HalfBoats();
        for (int i = 0; i < 9; i++) {
            x.call(0);
        }
        e.is("the tenth", x.call(0), 9);
        e.full("the 11th", x.call(0));
        e.is("how many", x.many(6), 10);
    }

    private void hears() {
        e.says("P25", "SHIPS that HEAR a CALL, as bits.");
        HalfBoats x = new HalfBoats();
        x.call(7);
        e.is("no SHIPS", x.hears(0), 0);
        for (int i = 0; i < 6; i++) {
            x.ship(5050, 1, i % 2 == 0 ? 999 : 8999, 0);
        }
        e.is("every other one", x.hears(0), 0b010101);
        x.call(8);
        e.is("all", x.hears(1), 63);
    }

    private void hearsBad() {
        e.says("P25", ". BAD.");
        HalfBoats x = new HalfBoats();
        e.bad("no CALL", x.hears(0));
        x.call(0);
        int[] no = {MIN, -1, 1, MAX};
        for (int c : no) {
            e.bad("hears(" + c + ")", x.hears(c));
        }
    }

    private void comes() {
        e.says("P26", "In which MINUTE a SHIP COMES (it may be above 999).");
        HalfBoats x = one(5050, 1, 0, 989);
        e.is("999", x.comes(0), 999);
        e.is("1000", one(5050, 1, 0, 990).comes(0), 1000);
        HalfBoats y = one(0, 1, 200, 999);
        y.ready(60);
        e.is("the latest of all", y.comes(0), 999 + 60 + 1000);
    }

    private void comesBad() {
        e.says("P26", ". BAD;");
        e.bad("no SHIP", new HalfBoats().comes(0));
        HalfBoats x = one(5050, 1, 0, 0);
        int[] no = {MIN, -1, 1, MAX};
        for (int s : no) {
            e.bad("comes(" + s + ")", x.comes(s));
        }
    }

    private void comesNone() {
        e.says("P26", "NONE: it HEARS none.");
        HalfBoats x = new HalfBoats();
        x.ship(5051, 1, 10020, 1);
        e.none("no CALL", x.comes(0));
        x.call(9);
        x.call(21);
        e.none("ears off", x.comes(0));
        x.call(20);
        e.is("ears on", x.comes(0), 40);
        e.none("too FAR", one(5051, 1, 0, 0).comes(0));
    }

    private void light() {
        e.says("P27", "A LIGHT: its number.");
        HalfBoats x = new HalfBoats();
        e.is("the first", x.light(0, 0, 0), 0);
        e.is("the same again", x.light(0, 0, 0), 1);
        e.is("another", x.light(999, 200, 200), 2);
    }

    private void lightBad() {
        e.says("P27", "BAD: no MINUTE, from and to aren't 0 to 200, to is below from;");
        HalfBoats x = new HalfBoats();
        int[][] no = {{-1, 0, 0}, {1000, 0, 0}, {MIN, 0, 0}, {MAX, 0, 0}, {0, -1, 0}, {0, -1, -1}, {0, 0, 201}, {0, 201, 201}, {0, MIN, 0}, {0, 0, MAX},
            {0, MIN, MAX}, {0, 1, 0}, {0, 200, 199}, {0, MAX, MIN}};
        for (int[] n : no) {
            e.bad("light(" + n[0] + ", " + n[1] + ", " + n[2] + ")", x.light(n[0], n[1], n[2]));
        }
        e.is("none came", x.many(7), 0);
        e.is("from 0 to 200", x.light(0, 0, 200), 0);
    }

    private void lightFull() {
        e.says("P27", "FULL.");
        HalfBoats x = new HalfBoats();
        for (int i = 0; i < 7; i++) {
            x.light(0, 0, 0);
        }
        e.is("the eighth", x.light(0, 0, 0), 7);
        e.full("the ninth", x.light(0, 0, 0));
        e.is("how many", x.many(7), 8);
    }

    private void mayBe() {
        e.says("P28", "SHIPS that a LIGHT CAN be, as bits.");
        HalfBoats x = new HalfBoats();
        x.light(0, 0, 10);
        e.is("no SHIPS", x.mayBe(0), 0);
        for (int i = 0; i < 6; i++) {
            x.ship(i % 2 == 0 ? 5060 : 5061, 1, 0, 0);
        }
        e.is("every other one", x.mayBe(0), 0b010101);
        x.light(0, 10, 11);
        e.is("all", x.mayBe(1), 63);
    }

    private void mayBeBad() {
        e.says("P28", ". BAD.");
        HalfBoats x = new HalfBoats();
        e.bad("no LIGHT", x.mayBe(0));
        x.light(0, 0, 0);
        int[] no = {MIN, -1, 1, MAX};
        for (int l : no) {
            e.bad("mayBe(" + l + ")", x.mayBe(l));
        }
    }

    private void sure() {
        e.says("P29", "The SURE one.");
        HalfBoats x = new HalfBoats();
        for (int i = 0; i < 6; i++) {
            x.ship(5050 + i, 1, 0, 0);
            x.light(0, i, i);
        }
        for (int i = 0; i < 6; i++) {
            e.is("SHIP " + i, x.sure(i), i);
        }
    }

    private void sureBad() {
        e.says("P29", ". BAD;");
        HalfBoats x = new HalfBoats();
        e.bad("no LIGHT", x.sure(0));
        x.light(0, 0, 0);
        int[] no = {MIN, -1, 1, MAX};
        for (int l : no) {
            e.bad("sure(" + l + ")", x.sure(l));
        }
    }

    private void sureNone() {
        e.says("P29", "NONE.");
        HalfBoats x = new HalfBoats();
        x.light(0, 0, 0);
        e.none("no SHIPS", x.sure(0));
        for (int i = 0; i < 6; i++) {
            x.ship(5050, 1, 0, 0);
            e.is("SHIPS alike: " + (i + 1), x.sure(0), i == 0 ? 0 : HalfBoats.NONE);
        }
    }
}
