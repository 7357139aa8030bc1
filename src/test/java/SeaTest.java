/** Promises 22 to 29: ships, calls, lights. */
public final class SeaTest {
    private static final Due due = new Due("SeaTest");

    public static void main(String[] args) {
        ships();
        calls();
        comes();
        lights();
        due.end();
    }

    private static void ships() {
        HalfBoats x = new HalfBoats();
        int[][] bad = {{-1, 1, 0, 0}, {10000, 1, 0, 0}, {0, 0, 0, 0}, {0, 41, 0, 0}, {0, 1, -1, 0}, {0, 1, 1000, 0}, {0, 1, 2001, 0},
            {0, 1, 1000000, 0}, {0, 1, 0, -1}, {0, 1, 0, 201}};
        for (int[] b : bad) {
            due.is("ship BAD", x.ship(b[0], b[1], b[2], b[3]), HalfBoats.BAD);
        }
        for (int i = 0; i < 6; i++) {
            due.is("ship", x.ship(9999, 40, 999999, 200), i);
        }
        due.is("ship FULL", x.ship(0, 1, 0, 0), HalfBoats.FULL);
        due.is("BAD ahead of FULL", x.ship(0, 1, 1000, 0), HalfBoats.BAD);
        due.is("many(5)", x.many(5), 6);
        due.is("ready -1", x.ready(-1), HalfBoats.BAD);
        due.is("ready 61", x.ready(61), HalfBoats.BAD);
        due.is("ready 60", x.ready(60), 10);
        due.is("ready 0", x.ready(0), 60);
        due.is("ready", x.ready(5), 0);
    }

    private static void calls() {
        HalfBoats x = new HalfBoats();
        x.ship(5050, 1, 5010, 0);
        x.ship(4062, 1, 999, 22);
        x.ship(4062, 1, 999, 21);
        due.is("call -1", x.call(-1), HalfBoats.BAD);
        due.is("call 1000", x.call(1000), HalfBoats.BAD);
        int[] minutes = {4, 5, 10, 11, 999, 0, 7, 7, 7, 7};
        int[] hear = {2, 3, 3, 2, 2, 2, 3, 3, 3, 3};
        for (int i = 0; i < 10; i++) {
            due.is("call", x.call(minutes[i]), i);
            due.is("hears", x.hears(i), hear[i]);
        }
        due.is("call FULL", x.call(0), HalfBoats.FULL);
        due.is("BAD ahead of FULL", x.call(-1), HalfBoats.BAD);
        due.is("hears -1", x.hears(-1), HalfBoats.BAD);
        due.is("hears 10", x.hears(10), HalfBoats.BAD);
        due.is("many(6)", x.many(6), 10);
    }

    private static void comes() {
        HalfBoats x = new HalfBoats();
        due.is("no SHIP", x.comes(0), HalfBoats.BAD);
        x.ship(5057, 4, 20999, 50);
        x.ship(9999, 1, 999, 200);
        due.is("comes -1", x.comes(-1), HalfBoats.BAD);
        due.is("comes 2", x.comes(2), HalfBoats.BAD);
        due.is("no CALL", x.comes(0), HalfBoats.NONE);
        x.call(10);
        due.is("ears off", x.comes(0), HalfBoats.NONE);
        x.call(30);
        due.is("70 / 4, up", x.comes(0), 30 + 10 + 18);
        x.call(20);
        due.is("the earliest", x.comes(0), 20 + 10 + 18);
        x.ready(0);
        due.is("at once", x.comes(0), 20 + 18);
        due.is("980 / 1", x.comes(1), 10 + 980);
        x.ready(60);
        due.is("above 999", x.comes(1), 10 + 60 + 980);
        HalfBoats z = new HalfBoats();
        z.ship(5050, 3, 999999, 0);
        z.call(998);
        due.is("ears on in MINUTE 999 alone", z.comes(0), HalfBoats.NONE);
        z.call(999);
        due.is("then", z.comes(0), 1009);
        HalfBoats y = new HalfBoats();
        y.ship(5050, 3, 999, 0);
        y.call(999);
        due.is("here", y.comes(0), 1009);
    }

    private static void lights() {
        HalfBoats x = new HalfBoats();
        int[][] bad = {{-1, 0, 0}, {1000, 0, 0}, {0, -1, 0}, {0, 0, 201}, {0, 201, 201}, {0, 5, 4}};
        for (int[] b : bad) {
            due.is("light BAD", x.light(b[0], b[1], b[2]), HalfBoats.BAD);
        }
        x.ship(5070, 5, 999, 50);
        x.ship(3050, 5, 0, 50);
        x.call(10);
        // SHIP 0 stands at 20 till MINUTE 20; half a mile a MINUTE then, cut.
        int[][] seen = {{20, 20, 20, 3}, {21, 20, 20, 3}, {22, 19, 19, 1}, {23, 0, 19, 1}, {60, 0, 0, 1}, {59, 1, 1, 1},
            {999, 0, 20, 3}, {5, 0, 19, 0}};
        for (int i = 0; i < 8; i++) {
            due.is("light", x.light(seen[i][0], seen[i][1], seen[i][2]), i);
            due.is("mayBe " + i, x.mayBe(i), seen[i][3]);
            due.is("sure " + i, x.sure(i), seen[i][3] == 1 ? 0 : HalfBoats.NONE);
        }
        due.is("light FULL", x.light(0, 0, 0), HalfBoats.FULL);
        due.is("BAD ahead of FULL", x.light(0, 1, 0), HalfBoats.BAD);
        due.is("mayBe -1", x.mayBe(-1), HalfBoats.BAD);
        due.is("mayBe 8", x.mayBe(8), HalfBoats.BAD);
        due.is("sure -1", x.sure(-1), HalfBoats.BAD);
        due.is("sure 8", x.sure(8), HalfBoats.BAD);
        due.is("many(7)", x.many(7), 8);
        x.ready(0);
        due.is("sooner", x.mayBe(0), 2);
        due.is("the other one", x.sure(0), 1);
    }
}
