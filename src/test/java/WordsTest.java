/** Promises 30 to 34: lists, words. */
public final class WordsTest {
    private static final Due due = new Due("WordsTest");

    public static void main(String[] args) {
        lists();
        sworn();
        takenBack();
        due.end();
    }

    private static void lists() {
        HalfBoats x = new HalfBoats();
        int all = (1 << 30) - 1;
        due.is("office -1", x.list(-1, 0), HalfBoats.BAD);
        due.is("office 3", x.list(3, 0), HalfBoats.BAD);
        due.is("names -1", x.list(0, -1), HalfBoats.BAD);
        due.is("name 30", x.list(0, 1 << 30), HalfBoats.BAD);
        due.is("all names", x.list(0, all), 0);
        due.is("maybe all", x.names(1), all);
        due.is("sure none", x.names(0), 0);
        due.is("what it was", x.list(0, 0b0101_0101), all);
        x.list(1, 0b0011_0011);
        x.list(2, 0b0000_1111);
        due.is("sure", x.names(0), 0b0001_0111);
        due.is("maybe", x.names(1), 0b0110_1000);
        due.is("what -1", x.names(-1), HalfBoats.BAD);
        due.is("what 2", x.names(2), HalfBoats.BAD);
    }

    private static void sworn() {
        HalfBoats x = new HalfBoats();
        due.is("leans on itself", x.sworn(1), HalfBoats.BAD);
        due.is("below 0", x.sworn(-1), HalfBoats.BAD);
        for (int i = 0; i < 12; i++) {
            due.is("a bit of none", x.sworn(1 << i), HalfBoats.BAD);
            due.is("sworn", x.sworn((1 << i) - 1), i);
        }
        due.is("FULL", x.sworn(0), HalfBoats.FULL);
        due.is("BAD ahead of FULL", x.sworn(1 << 12), HalfBoats.BAD);
        due.is("many(8)", x.many(8), 12);
        due.is("all stand", x.standing(0), 4095);
    }

    private static void takenBack() {
        HalfBoats x = new HalfBoats();
        x.sworn(0);
        x.minutes(5);
        x.sworn(0);
        x.sworn(1);
        x.sworn(6);
        x.minutes(5);
        due.is("word -1", x.takeBack(-1), HalfBoats.BAD);
        due.is("word 4", x.takeBack(4), HalfBoats.BAD);
        due.is("taken back: 0 and 2 stand", x.takeBack(1), 2);
        due.is("it was", x.takeBack(1), HalfBoats.STATE);
        due.is("k -1", x.standing(-1), HalfBoats.BAD);
        due.is("k 1000", x.standing(1000), HalfBoats.BAD);
        due.is("at 0", x.standing(0), 1);
        due.is("at 4", x.standing(4), 1);
        due.is("at 5", x.standing(5), 15);
        due.is("at 9", x.standing(9), 15);
        due.is("at 10", x.standing(10), 5);
        due.is("at 999", x.standing(999), 5);
        due.is("none stands", x.takeBack(0), 0);
        due.is("leans on one that fell", x.sworn(4), 4);
        due.is("doesn't stand", x.standing(999), 0);
        due.is("taken back, though it doesn't stand", x.takeBack(3), 0);
    }
}
