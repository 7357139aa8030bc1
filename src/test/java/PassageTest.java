/** Promises 41 and 42: a run. */
public final class PassageTest {
    private static final Due due = new Due("PassageTest");

    public static void main(String[] args) {
        legs();
        runs();
        ties();
        due.end();
    }

    private static void legs() {
        HalfBoats x = new HalfBoats();
        int[][] bad = {{0, 0}, {100, 0}, {1, -1}, {1, 10}};
        for (int[] b : bad) {
            due.is("leg BAD", x.leg(b[0], b[1]), HalfBoats.BAD);
        }
        due.is("run without LEGS, RISK", x.run(0, -1), 0);
        due.is("run without LEGS, MINUTES", x.run(0, -2), 0);
        due.is("run without LEGS, no such", x.run(0, 0), HalfBoats.BAD);
        for (int i = 1; i <= 7; i++) {
            due.is("leg", x.leg(99, 9), i);
        }
        due.is("leg FULL", x.leg(1, 0), HalfBoats.FULL);
        due.is("BAD ahead of FULL", x.leg(0, 0), HalfBoats.BAD);
        due.is("many(10)", x.many(10), 7);
        due.is("all slow", x.run(9999, -1), 7 * 891);
        due.is("all slow", x.run(9999, -2), 7 * 1188);
        due.is("all fast", x.run(7 * 297, -1), 7 * 891 * 16);
        due.is("faster than can be", x.run(7 * 297 - 1, -1), HalfBoats.STATE);
        due.is("limit -1", x.run(-1, -1), HalfBoats.BAD);
        due.is("limit 10000", x.run(10000, -1), HalfBoats.BAD);
        due.is("what -3", x.run(9999, -3), HalfBoats.BAD);
        due.is("what 7", x.run(9999, 7), HalfBoats.BAD);
        due.is("BAD ahead of STATE", x.run(0, 7), HalfBoats.BAD);
    }

    private static void runs() {
        HalfBoats x = new HalfBoats();
        x.leg(5, 2);
        x.leg(7, 1);
        // MINUTES 60, 30, 20, 15 with RISK 10, 40, 90, 160; 84, 42, 28, 21 with 7, 28, 63, 112.
        due.is("risk", x.run(144, -1), 17);
        due.is("risk", x.run(143, -1), 38);
        due.is("speed", x.run(143, 0), 1);
        due.is("speed", x.run(143, 1), 2);
        due.is("minutes", x.run(143, -2), 102);
        due.is("risk", x.run(101, -1), 68);
        due.is("minutes", x.run(101, -2), 72);
        due.is("least", x.run(36, -1), 272);
        due.is("none", x.run(35, 0), HalfBoats.STATE);
        HalfBoats y = new HalfBoats();
        y.leg(1, 1);
        due.is("12 / 4", y.run(3, -2), 3);
        y.leg(7, 0);
        due.is("84 / 4 and 12 / 1", y.run(33, -1), 1);
        due.is("without ICE as fast as can be", y.run(9999, -2), 33);
        due.is("without ICE as fast as can be", y.run(9999, 1), 4);
    }

    private static void ties() {
        // Two LEGS alike: the least speeds, LEG by LEG.
        HalfBoats x = new HalfBoats();
        x.leg(10, 3);
        x.leg(10, 3);
        due.is("slow first", x.run(239, 0), 1);
        due.is("fast then", x.run(239, 1), 2);
        // 12 MILES are 144 / 3 = 48; up: 5 MILES at 3: 20; 7 MILES at 4: 21.
        HalfBoats y = new HalfBoats();
        y.leg(5, 0);
        y.leg(5, 0);
        y.leg(5, 9);
        due.is("the fewest MINUTES", y.run(9999, -2), 90);
        due.is("least RISK", y.run(9999, -1), 45);
        due.is("tight", y.run(89, -1), 180);
        due.is("tight", y.run(89, -2), 60);
    }
}
