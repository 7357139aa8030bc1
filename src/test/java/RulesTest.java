/** Promises 35 to 40: rules. */
public final class RulesTest {
    private static final Due due = new Due("RulesTest");

    public static void main(String[] args) {
        feed();
        reads();
        faults();
        faultsInARow();
        full();
        versions();
        lack();
        rank();
        must();
        conditions();
        due.end();
    }

    private static void feed() {
        HalfBoats x = new HalfBoats();
        due.is("n 0", x.feed(0, 0), HalfBoats.BAD);
        due.is("n 9", x.feed(0, 9), HalfBoats.BAD);
        due.is("lowest first", x.feed(0x20203b3233363734L, 1), 1);
        due.is("its fault", x.read(), -100);
        for (int i = 1; i <= 24; i++) {
            due.is("feed", x.feed(0x2020202020202020L, 8), 8 * i);
        }
        due.is("199", x.feed(0x2020202020202020L, 7), 199);
        due.is("FULL", x.feed(0, 2), HalfBoats.FULL);
        due.is("BAD ahead of FULL", x.feed(0, 9), HalfBoats.BAD);
        due.is("many(12)", x.many(12), 199);
        due.is("200", x.feed(-1L, 1), 200);
        due.is("byte 255", x.read(), -100 - 199);
        due.is("used up", x.many(12), 0);
        due.is("eight bytes, the highest below 0", x.feed(0xbb20202020202020L, 8), 8);
        due.is("byte 187", x.read(), -107);
        due.is("\"come\"", x.feed(0x656d6f63L, 4), 4);
        due.is("more must come", x.read(), -104);
    }

    private static void reads() {
        String[] texts = {"", "   ", "seats 0 for 1;", "seats 999 for 999;", "seats 007for 010 ;", " first men ;", "first men then women then children;",
            "come if heard;", "come if not not heard or far<0 and speed = 999;", "come if((((heard))));", "come if(heard)and(heard)or not(minute>5);",
            "first men;first men;first men;first men;first men;first men;first men;first men;", "seats 1 for 1;come if far>1or speed<2;first women;"};
        int[] lines = {0, 0, 1, 1, 1, 1, 1, 1, 1, 1, 1, 8, 3};
        for (int i = 0; i < texts.length; i++) {
            HalfBoats x = new HalfBoats();
            due.is("read: " + texts[i], Due.read(x, texts[i]), 0);
            due.is("lines: " + texts[i], x.version(0, 0), lines[i]);
            due.is("used up", x.many(12), 0);
        }
    }

    /** The fault is where the ^ stands, which is not part of the text. */
    private static void faults() {
        String[] texts = {"^;", "^x", "^Seats 1 for 2;", "^sea", "^seatss 1 for 2;", "seats^", "seats ^;", "seats ^for", "seats ^x for 2;", "seats 1 for ^x;",
            "seats 1 ^first 2;", "^for 1 for 2;", "^for men;", "^then men;", "^if heard;", "come ^come heard;", "come if far<^x;", "come if heard ^if heard;", "seats 1^", "seats 1 ^2",
            "seats ^1000 for 2;", "seats 1 for ^0;", "seats 1 for ^000;", "seats 1 for ^1234;", "seats 1 for 2^", "seats 1 for 2 ^:", "seats 1 for 2;^3",
            "first ^;", "first^", "first men^", "first men ^women", "first men then ^men;", "first men then women then children then ^men;",
            "first men then women then children then^", "first men then women then children then ^;", "first ^heard;", "first men then ^child;", "first ^menz;", "first ^amen;",
            "come ^heard;", "come if^", "come if ^;", "come if heard^", "come if heard ^heard", "come if heard or ^;", "come if heard and ^or heard;",
            "come if not ^;", "come if not^", "come if ^)", "come if (heard^;", "come if (heard ^", "come if heard^);", "come if ((heard)^;",
            "come if ((((^(heard)))));", "come if ((((heard)))) and ((((not ^(far<1)))));", "come if far ^1;", "come if far<^;", "come if far^?1;", "come if far^;1;",
            "come if far<^1000;", "come if far<^-1;", "come if far<^=1;", "come if minute<^", "come if speed ^speed<1;", "come if heard;^;",
            "come if far^1<2;", "come if^\tfar<2;", "come if heard ; ^then", "come ^iffar<1;", "come if far<1 ^2;",
            "first men;first men;first men;first men;first men;first men;first men;first men;^first men;",
            "first men;first men;first men;first men;first men;first men;first men;first men;  ^nothing",
            "first men;first men;first men;first men;first men;first men;first men;first men;^;",
            "seats 1 for   ^"};
        for (String t : texts) {
            HalfBoats x = new HalfBoats();
            int want = -100 - t.indexOf('^');
            due.is("fault: " + t, Due.read(x, t.replace("^", "")), want);
            due.is("no VERSION", x.many(9), 0);
            due.is("used up", x.many(12), 0);
        }
    }

    /** What texts with a FAULT leave behind takes no room from the next one. */
    private static void faultsInARow() {
        HalfBoats x = new HalfBoats();
        x.ship(5053, 7, 999, 5);
        String open = "first men;come if heard or heard or heard or heard or heard or heard or heard or heard or heard";
        for (int i = 0; i < 20; i++) {
            due.is("a long fault", Due.read(x, open), -100 - open.length());
        }
        due.is("read", Due.read(x, "come if far=4 or not far=3;come if far=4;come if heard or far=3;"), 0);
        due.is("lines", x.version(0, 0), 3);
        due.is("must", x.must(0, 0), 1);
    }

    private static void full() {
        HalfBoats x = new HalfBoats();
        for (int i = 0; i < 6; i++) {
            due.is("read", Due.read(x, "first men;"), i);
        }
        due.is("FULL", Due.read(x, "first women;"), HalfBoats.FULL);
        due.is("used up", x.many(12), 0);
        due.is("behind a FAULT", Due.read(x, "first wo;"), -106);
        due.is("nothing changed", x.rank(2, 0), 0);
        due.is("many(9)", x.many(9), 6);
    }

    private static void versions() {
        HalfBoats x = new HalfBoats();
        due.is("none", x.version(0, 0), HalfBoats.BAD);
        Due.read(x, "come if heard;seats 1 for 2;first men;come if heard;");
        x.minutes(7);
        Due.read(x, "");
        due.is("v -1", x.version(-1, 0), HalfBoats.BAD);
        due.is("v 2", x.version(2, 0), HalfBoats.BAD);
        due.is("lines", x.version(0, 0), 4);
        due.is("from", x.version(0, 1), 0);
        int[] sorts = {2, 0, 1, 2};
        for (int i = 0; i < 4; i++) {
            due.is("sort", x.version(0, 10 + i), sorts[i]);
        }
        int[] bad = {-1, 2, 9, 14, Integer.MAX_VALUE, Integer.MIN_VALUE};
        for (int what : bad) {
            due.is("what " + what, x.version(0, what), HalfBoats.BAD);
        }
        due.is("empty", x.version(1, 0), 0);
        due.is("from 7", x.version(1, 1), 7);
        due.is("no LINE", x.version(1, 10), HalfBoats.BAD);
    }

    private static void lack() {
        HalfBoats x = new HalfBoats();
        due.is("minute -1", x.lack(-1), HalfBoats.BAD);
        due.is("minute 1000", x.lack(1000), HalfBoats.BAD);
        due.is("without", x.lack(0), 0);
        x.minutes(5);
        Due.read(x, "seats 3 for 100;seats 7 for 300;");
        due.is("ahead of it", x.lack(4), 0);
        due.is("the latest: 7 times 800 / 300, cut", x.lack(5), 14);
        x.set(0, 0, 200);
        due.is("900 / 300", x.lack(999), 21);
        x.boat(20, 0, 0, 0);
        due.is("less SEATS", x.lack(5), 1);
        x.boat(2, 0, 0, 0);
        due.is("0 at least", x.lack(5), 0);
        Due.read(x, "seats 999 for 1;");
        due.is("the later VERSION of a MINUTE", x.lack(5), 999 * 900 - 22);
        Due.read(x, "first men;");
        due.is("a TEXT without", x.lack(5), 0);
    }

    private static void rank() {
        HalfBoats x = new HalfBoats();
        due.is("kind -1", x.rank(-1, 0), HalfBoats.BAD);
        due.is("kind 3", x.rank(3, 0), HalfBoats.BAD);
        due.is("minute -1", x.rank(0, -1), HalfBoats.BAD);
        due.is("minute 1000", x.rank(0, 1000), HalfBoats.BAD);
        due.is("without", x.rank(0, 0), 9);
        Due.read(x, "first children then women then men;");
        for (int k = 0; k < 3; k++) {
            due.is("rank", x.rank(k, 0), k);
        }
        x.minutes(1);
        Due.read(x, "first children;first men then women;");
        due.is("of MINUTE 0", x.rank(2, 0), 2);
        due.is("not in the latest first", x.rank(0, 1), 9);
        due.is("second", x.rank(1, 1), 1);
        due.is("first", x.rank(2, 999), 0);
    }

    private static void must() {
        HalfBoats x = new HalfBoats();
        due.is("no SHIP", x.must(0, 0), HalfBoats.BAD);
        x.ship(5053, 7, 999, 5);
        x.ship(5053, 7, 0, 5);
        due.is("ship -1", x.must(-1, 0), HalfBoats.BAD);
        due.is("ship 2", x.must(2, 0), HalfBoats.BAD);
        due.is("minute -1", x.must(0, -1), HalfBoats.BAD);
        due.is("minute 1000", x.must(0, 1000), HalfBoats.BAD);
        due.is("no RULES", x.must(0, 0), 0);
        Due.read(x, "come if heard;");
        x.call(20);
        due.is("not yet", x.must(0, 19), 0);
        due.is("heard", x.must(0, 20), 1);
        due.is("heard then", x.must(0, 21), 1);
        due.is("not heard", x.must(1, 21), 0);
        x.minutes(30);
        Due.read(x, "come if far=4;come if speed=7;");
        due.is("some come", x.must(1, 30), 1);
        due.is("older RULES", x.must(1, 29), 0);
        Due.read(x, "seats 1 for 1;");
        due.is("no come", x.must(1, 30), 0);
    }

    private static void conditions() {
        // FAR 3, SPEED 7, asked for MINUTE 5; it has heard by then.
        String[] yes = {"far=3", "far<4", "far>2", "speed=7", "speed<8", "speed>6", "minute=5", "minute<6", "minute>4", "heard", "not far=4",
            "not not heard", "heard or far=0 and far=1", "far=0 and far=1 or heard", "not far=0 and heard", "not(far=0 or far=1)",
            "(far=0 or heard)and speed=7", "heard and heard and heard", "far=0 or far=1 or far=003", "((((far=3 or far=0)and heard)or far=0)and heard)",
            "not far=0 and not(heard and far=1)", "far=0 or not far=0 and(far=0 or heard and(heard or far=0))"};
        String[] no = {"far=4", "far<3", "far>3", "speed=6", "speed<7", "speed>7", "minute=6", "minute<5", "minute>5", "not heard", "not not far=0",
            "(heard or far=0)and far=1", "heard and far=1 or far=0", "not heard or far=0", "not(heard or far=0)", "heard and not heard",
            "((((far=3 or far=0)and far=1)or far=0)and heard)", "heard and heard and far=0"};
        for (int i = 0; i < yes.length + no.length; i++) {
            String cond = i < yes.length ? yes[i] : no[i - yes.length];
            HalfBoats x = new HalfBoats();
            x.ship(5053, 7, 999, 5);
            x.call(5);
            due.is("read " + cond, Due.read(x, "come if " + cond + ";"), 0);
            due.is(cond, x.must(0, 5), i < yes.length ? 1 : 0);
        }
    }
}
