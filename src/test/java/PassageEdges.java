/** 'Terms' 7 and promises 41 and 42, sentence by sentence. */
final class PassageEdges {
    private static final int MIN = Integer.MIN_VALUE;
    private static final int MAX = Integer.MAX_VALUE;

    private final Edges e;

    PassageEdges(Edges e) {
        this.e = e;
    }

    void all() {
        legsAsTold();
        minutesOfALeg();
        riskOfALeg();
        leastRisk();
        fewestMinutes();
        leastSpeeds();
        leg();
        legBad();
        legFull();
        run();
        runBad();
        runState();
        withoutLegs();
    }

    private static HalfBoats legs(int... milesAndIce) {
        HalfBoats x = new HalfBoats();
        for (int i = 0; i + 1 < milesAndIce.length; i += 2) {
            x.leg(milesAndIce[i], milesAndIce[i + 1]);
        }
        return x;
    }

    private void legsAsTold() {
        e.says("7", "A RUN: LEGS, 7 at most, each of MILES (1 to 99) through ICE (0 to 9).");
        HalfBoats x = new HalfBoats();
        e.bad("MILES 0", x.leg(0, 0));
        e.bad("MILES 100", x.leg(100, 0));
        e.bad("ICE -1", x.leg(1, -1));
        e.bad("ICE 10", x.leg(1, 10));
        for (int i = 0; i < 7; i++) {
            e.is("a LEG", x.leg(i % 2 == 0 ? 1 : 99, i % 2 == 0 ? 9 : 0), i + 1);
        }
        e.full("the eighth", x.leg(1, 0));
        e.is("how many", x.many(10), 7);
    }

    private void minutesOfALeg() {
        e.says("7", "On each one of the speeds 1 to 4: MINUTES: 12 times MILES by speed, up;");
        int[] miles = {1, 7, 99};
        for (int m : miles) {
            HalfBoats x = legs(m, 1);
            for (int speed = 1; speed <= 4; speed++) {
                int minutes = (12 * m + speed - 1) / speed;
                e.is(m + " MILES in " + minutes, x.run(minutes, 0), speed);
                e.is(m + " MILES in " + minutes + ": MINUTES", x.run(minutes, -2), minutes);
            }
            e.state(m + " MILES, a MINUTE less than at 4", x.run(3 * m - 1, 0));
        }
    }

    private void riskOfALeg() {
        e.says("7", "RISK: ICE times MILES times speed times speed.");
        int[][] cases = {{1, 1, 1}, {99, 9, 891}, {99, 0, 0}, {5, 2, 10}};
        for (int[] c : cases) {
            for (int speed = 1; speed <= 4; speed++) {
                e.is(c[0] + " through " + c[1] + " at " + speed, legs(c[0], c[1]).run(12 * c[0] / speed, -1), c[2] * speed * speed);
            }
        }
        HalfBoats x = legs(99, 9, 99, 9, 99, 9, 99, 9, 99, 9, 99, 9, 99, 9);
        e.is("the most that can be", x.run(7 * 297, -1), 7 * 891 * 16);
    }

    private void leastRisk() {
        e.says("7", "THE RUN with LIMIT MINUTES: of all with MINUTES together at most LIMIT the least RISK;");
        // 60, 30, 20, 15 MINUTES with 10, 40, 90, 160; 84, 42, 28, 21 with 7, 28, 63, 112.
        HalfBoats x = legs(5, 2, 7, 1);
        int[][] cases = {{9999, 17}, {144, 17}, {143, 38}, {102, 38}, {101, 68}, {72, 68}, {36, 272}};
        for (int[] c : cases) {
            e.is("LIMIT " + c[0], x.run(c[0], -1), c[1]);
        }
    }

    private void fewestMinutes() {
        e.says("7", "of several that of the fewest MINUTES;");
        HalfBoats x = legs(9, 0);
        e.is("no ICE: at 4", x.run(9999, 0), 4);
        e.is("no ICE: MINUTES", x.run(9999, -2), 27);
        // 48, 24 MINUTES with 4, 16; 24, 12 with 4, 16: 2 and 1 takes 48, 1 and 2 takes 60; RISK is 20 for both.
        HalfBoats y = legs(4, 1, 2, 2);
        e.is("RISK", y.run(71, -1), 20);
        e.is("MINUTES", y.run(71, -2), 48);
        e.is("on LEG 0", y.run(71, 0), 2);
        e.is("on LEG 1", y.run(71, 1), 1);
    }

    private void leastSpeeds() {
        e.says("7", "of several the least speeds, LEG by LEG.");
        HalfBoats x = legs(10, 3, 10, 3, 10, 3);
        int[][] cases = {{360, 1, 1, 1}, {359, 1, 1, 2}, {299, 1, 2, 2}, {239, 2, 2, 2}};
        for (int[] c : cases) {
            for (int i = 0; i < 3; i++) {
                e.is("LIMIT " + c[0] + ", LEG " + i, x.run(c[0], i), c[1 + i]);
            }
        }
    }

    private void leg() {
        e.says("P41", "A LEG: how many there are.");
        HalfBoats x = new HalfBoats();
        e.is("one", x.leg(1, 0), 1);
        e.is("two", x.leg(99, 9), 2);
        e.is("many(10)", x.many(10), 2);
    }

    private void legBad() {
        e.says("P41", ". BAD;");
        HalfBoats x = new HalfBoats();
        int[][] no = {{0, 0}, {-1, 0}, {100, 0}, {MIN, 0}, {MAX, 0}, {1, -1}, {1, 10}, {1, MIN}, {1, MAX}};
        for (int[] n : no) {
            e.bad("leg(" + n[0] + ", " + n[1] + ")", x.leg(n[0], n[1]));
        }
        e.is("none came", x.many(10), 0);
    }

    private void legFull() {
        e.says("P41", "FULL.");
        HalfBoats x = legs(1, 0, 1, 0, 1, 0, 1, 0, 1, 0, 1, 0);
        e.is("the seventh", x.leg(1, 0), 7);
        e.full("the eighth", x.leg(1, 0));
        e.is("how many", x.many(10), 7);
    }

    private void run() {
        e.says("P42", "THE RUN with LIMIT (0 to 9999): what = -1 RISK, -2 MINUTES, else the speed on LEG what.");
        HalfBoats x = legs(1, 1, 2, 1, 3, 1, 4, 1, 5, 1, 6, 1, 7, 1);
        e.is("RISK", x.run(9999, -1), 28);
        e.is("MINUTES", x.run(9999, -2), 28 * 12);
        for (int i = 0; i < 7; i++) {
            e.is("LEG " + i, x.run(9999, i), 1);
            e.is("LEG " + i + ", as fast as can be", x.run(28 * 3, i), 4);
        }
    }

    private void runBad() {
        e.says("P42", ". BAD;");
        HalfBoats x = legs(1, 1, 1, 1);
        int[][] no = {{-1, -1}, {10000, -1}, {MIN, -1}, {MAX, -1}, {100, -3}, {100, 2}, {100, 7}, {100, MIN}, {100, MAX}};
        for (int[] n : no) {
            e.bad("run(" + n[0] + ", " + n[1] + ")", x.run(n[0], n[1]));
        }
    }

    private void runState() {
        e.says("P42", "STATE: there is none");
        HalfBoats x = legs(1, 1, 2, 0);
        for (int what = -2; what < 2; what++) {
            e.state("LIMIT 0", x.run(0, what));
            e.state("LIMIT 8", x.run(8, what));
        }
        e.is("LIMIT 9", x.run(9, -2), 9);
    }

    private void withoutLegs() {
        e.says("P42", "(0 without LEGS).");
        HalfBoats x = new HalfBoats();
        for (int limit : new int[] {0, 1, 9999}) {
            e.is("RISK", x.run(limit, -1), 0);
            e.is("MINUTES", x.run(limit, -2), 0);
            e.bad("no LEG 0", x.run(limit, 0));
        }
        e.bad("LIMIT -1", x.run(-1, -1));
        x.keep();
        x.leg(99, 9);
        x.run(9999, -1);
        x.again();
        e.is("none any more: RISK", x.run(0, -1), 0);
        e.is("none any more: MINUTES", x.run(0, -2), 0);
        x.leg(1, 0);
        x.keep();
        x.leg(99, 9);
        x.run(9999, -1);
        x.again();
        e.is("one is left: RISK", x.run(9999, -1), 0);
        e.is("one is left: MINUTES", x.run(9999, -2), 3);
    }
}
