/** 'Terms' 5 and promises 30 to 34, sentence by sentence. */
final class WordsEdges {
    private static final int MIN = Integer.MIN_VALUE;
    private static final int MAX = Integer.MAX_VALUE;
    private static final int ALL = (1 << 30) - 1;

    private final Edges e;

    WordsEdges(Edges e) {
        this.e = e;
    }

    void all() {
        offices();
        sureAndMaybe();
        swornAsTold();
        takenBackAsTold();
        standsAsTold();
        list();
        listBad();
        names();
        namesBad();
        sworn();
        swornBad();
        swornFull();
        takeBack();
        takeBackBad();
        takeBackState();
        standing();
        standingBad();
    }

    private void offices() {
        e.says("5", "OFFICES 0 to 2 have LISTS of names (0 to 29, as bits).");
        HalfBoats x = new HalfBoats();
        for (int office = 0; office < 3; office++) {
            e.is("empty at first", x.list(office, 1), 0);
            e.is("name 0", x.list(office, 1 << 29), 1);
            e.is("name 29", x.list(office, ALL), 1 << 29);
            e.is("all names", x.list(office, 0), ALL);
            e.bad("name 30", x.list(office, 1 << 30));
            e.bad("name 31", x.list(office, MIN));
        }
        e.bad("OFFICE -1", x.list(-1, 0));
        e.bad("OFFICE 3", x.list(3, 0));
    }

    private void sureAndMaybe() {
        e.says("5", "SURE are names on two LISTS at least, MAYBE those on one.");
        for (int on = 0; on < 8; on++) {
            HalfBoats x = new HalfBoats();
            for (int office = 0; office < 3; office++) {
                x.list(office, (on >> office & 1) == 1 ? 1 << 29 | 1 : 0);
            }
            int many = Integer.bitCount(on);
            e.is("SURE, on LISTS " + on, x.names(0), many >= 2 ? 1 << 29 | 1 : 0);
            e.is("MAYBE, on LISTS " + on, x.names(1), many == 1 ? 1 << 29 | 1 : 0);
        }
    }

    private void swornAsTold() {
        e.says("5", "SWORN, 12 at most, numbered as they come: words KNOWN from NOW on, that lean on others ahead of them (bits).");
        HalfBoats x = new HalfBoats();
        for (int i = 0; i < 12; i++) {
            e.bad("on itself", x.sworn(1 << i));
            e.is("on all ahead", x.sworn((1 << i) - 1), i);
            x.minutes(1);
        }
        e.full("the 13th", x.sworn(0));
        e.is("how many", x.many(8), 12);
        for (int k = 0; k < 12; k++) {
            e.is("KNOWN at " + k, x.standing(k), (1 << k + 1) - 1);
        }
        e.is("KNOWN at 999", x.standing(999), 4095);
    }

    private void takenBackAsTold() {
        e.says("5", "One may be taken back, from NOW on.");
        HalfBoats x = new HalfBoats();
        x.sworn(0);
        x.minutes(5);
        x.takeBack(0);
        e.is("at 4", x.standing(4), 1);
        e.is("at 5", x.standing(5), 0);
        e.is("at 999", x.standing(999), 0);
        HalfBoats y = new HalfBoats();
        y.sworn(0);
        y.takeBack(0);
        e.is("in the MINUTE in which it came", y.standing(0), 0);
    }

    private void standsAsTold() {
        e.says("5", "As KNOWN at k one STANDS that was KNOWN by k, and wasn't taken back by k, if all on which it leans STAND.");
        HalfBoats x = new HalfBoats();
        x.sworn(0);
        x.sworn(1);
        x.sworn(2);
        x.sworn(0);
        x.minutes(10);
        x.sworn(0b1100);
        e.is("ahead of it", x.standing(9), 0b01111);
        e.is("from then on", x.standing(10), 0b11111);
        x.minutes(10);
        x.takeBack(0);
        e.is("till then", x.standing(19), 0b11111);
        e.is("all that lean on it fall, one by the other", x.standing(20), 0b01000);
        x.sworn(0b10000);
        e.is("one that leans on a fallen one", x.standing(20), 0b01000);
        e.is("as KNOWN ahead, they stand", x.standing(19), 0b11111);
    }

    private void list() {
        e.says("P30", "The LIST of an OFFICE becomes names: what it was.");
        HalfBoats x = new HalfBoats();
        for (int office = 0; office < 3; office++) {
            e.is("nothing", x.list(office, 5 + office), 0);
        }
        for (int office = 0; office < 3; office++) {
            e.is("each its own", x.list(office, 0), 5 + office);
            e.is("nothing again", x.list(office, ALL), 0);
        }
    }

    private void listBad() {
        e.says("P30", ". BAD.");
        HalfBoats x = new HalfBoats();
        x.list(0, 7);
        int[][] no = {{-1, 0}, {3, 0}, {MIN, 0}, {MAX, 0}, {0, -1}, {0, 1 << 30}, {0, ALL + 1}, {0, MIN}, {0, MAX}, {2, 1 << 30 | 1}};
        for (int[] n : no) {
            e.bad("list(" + n[0] + ", " + n[1] + ")", x.list(n[0], n[1]));
        }
        e.is("as it was", x.list(0, 0), 7);
    }

    private void names() {
        e.says("P31", "SURE (what 0), MAYBE names (1), as bits.");
        HalfBoats x = new HalfBoats();
        e.is("SURE of none", x.names(0), 0);
        e.is("MAYBE of none", x.names(1), 0);
        x.list(0, 0b1110);
        x.list(1, 0b0111);
        e.is("SURE", x.names(0), 0b0110);
        e.is("MAYBE", x.names(1), 0b1001);
        x.list(0, ALL);
        x.list(1, ALL);
        x.list(2, ALL);
        e.is("SURE of all", x.names(0), ALL);
        e.is("MAYBE then", x.names(1), 0);
    }

    private void namesBad() {
        e.says("P31", ". BAD.");
        int[] no = {MIN, -1, 2, MAX};
        for (int what : no) {
            e.bad("names(" + what + ")", new HalfBoats().names(what));
        }
    }

    private void sworn() {
        e.says("P32", "A SWORN word: its number.");
        HalfBoats x = new HalfBoats();
        e.is("the first", x.sworn(0), 0);
        e.is("the second", x.sworn(1), 1);
        x.takeBack(1);
        e.is("one that leans on what was taken back", x.sworn(2), 2);
    }

    private void swornBad() {
        e.says("P32", "BAD: a bit of none;");
        HalfBoats x = new HalfBoats();
        int[] no = {1, 2, 3, -1, 1 << 11, MIN, MAX};
        for (int leans : no) {
            e.bad("without words: sworn(" + leans + ")", x.sworn(leans));
        }
        x.sworn(0);
        int[] nor = {2, 3, -1, 1 << 11, MIN, MAX};
        for (int leans : nor) {
            e.bad("with one: sworn(" + leans + ")", x.sworn(leans));
        }
        e.is("none came", x.many(8), 1);
    }

    private void swornFull() {
        e.says("P32", "FULL.");
        HalfBoats x = new HalfBoats();
        for (int i = 0; i < 11; i++) {
            x.sworn(0);
        }
        e.is("the 12th", x.sworn(0), 11);
        e.full("the 13th", x.sworn(0));
        e.full("the 13th that leans on all", x.sworn(4095));
        x.takeBack(0);
        e.full("one taken back makes no room", x.sworn(0));
        e.is("how many", x.many(8), 12);
    }

    private void takeBack() {
        e.says("P33", "A SWORN word is taken back: how many STAND as KNOWN NOW.");
        HalfBoats x = new HalfBoats();
        x.sworn(0);
        x.sworn(1);
        x.sworn(0);
        x.sworn(4);
        e.is("the last alone falls", x.takeBack(3), 3);
        e.is("with all that lean on it", x.takeBack(0), 1);
        e.is("one that doesn't stand", x.takeBack(1), 1);
        e.is("none is left", x.takeBack(2), 0);
    }

    private void takeBackBad() {
        e.says("P33", ". BAD;");
        HalfBoats x = new HalfBoats();
        e.bad("no word", x.takeBack(0));
        x.sworn(0);
        int[] no = {MIN, -1, 1, 12, MAX};
        for (int w : no) {
            e.bad("takeBack(" + w + ")", x.takeBack(w));
        }
        e.is("it stands", x.standing(0), 1);
    }

    private void takeBackState() {
        e.says("P33", "STATE: it was.");
        HalfBoats x = new HalfBoats();
        x.sworn(0);
        x.minutes(3);
        x.takeBack(0);
        e.state("at once", x.takeBack(0));
        x.minutes(3);
        e.state("later", x.takeBack(0));
        e.is("since 3", x.standing(2) * 10 + x.standing(3), 10);
    }

    private void standing() {
        e.says("P34", "SWORN words that STAND as KNOWN at k, as bits.");
        HalfBoats x = new HalfBoats();
        e.is("none", x.standing(0), 0);
        x.minutes(5);
        for (int i = 0; i < 12; i++) {
            x.sworn(0);
        }
        e.is("at 4", x.standing(4), 0);
        e.is("at 5", x.standing(5), 4095);
        e.is("at 999, behind NOW", x.standing(999), 4095);
        x.takeBack(11);
        x.takeBack(0);
        e.is("less two", x.standing(5), 0b011111111110);
    }

    private void standingBad() {
        e.says("P34", ". BAD.");
        int[] no = {MIN, -1, 1000, MAX};
        for (int k : no) {
            e.bad("standing(" + k + ")", new HalfBoats().standing(k));
        }
    }
}
