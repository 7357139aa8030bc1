import java.util.ArrayList;
import java.util.List;

/** Objects with something in every part, and all that can be asked of one, within 512 calls. */
final class Look {
    private final HalfBoats x;
    private final List<String> calls = new ArrayList<>();
    private final List<Integer> answers = new ArrayList<>();

    private Look(HalfBoats x) {
        this.x = x;
    }

    /** Some of everything, kept once, and something more behind that. */
    static HalfBoats some() {
        HalfBoats x = new HalfBoats();
        x.set(0, 1, 3);
        x.set(1, 2, 2);
        x.set(7, 0, 300);
        x.wall(0, 20);
        x.door(2, true);
        x.minutes(4);
        x.sounding(0, 3, 1, 90);
        x.way(0, 3, 4, 9);
        x.group(20, 1, 0, 2);
        x.group(30, 2, 3, 0);
        x.boat(25, 3, 40, 1);
        x.boat(9, 0, 2, 0);
        x.ship(5060, 7, 999, 30);
        x.ship(3050, 9, 5010, 30);
        x.ready(12);
        x.call(5);
        x.light(40, 0, 9);
        x.list(0, 6);
        x.list(2, 3);
        x.sworn(0);
        x.sworn(1);
        Due.read(x, "seats 3 for 9;first men then women;come if far<15;");
        x.leg(10, 4);
        x.keep();
        x.minutes(3);
        x.sworn(2);
        x.takeBack(0);
        x.call(6);
        x.leg(20, 1);
        x.boat(30, 0, 30, 1);
        x.seat();
        x.alterRow(0, 2, 7);
        x.sheet(0, 0, 5);
        x.put(0, 0, 44);
        x.put(0, 1, -44);
        x.sheet(1, 3, 2);
        x.put(1, 0, -7);
        x.shelf(0, 0, 7);
        x.shelf(1, 1, 0);
        x.shelf(2, 5, 1);
        x.act(1, 3, 5);
        Due.feed(x, "come if he");
        return x;
    }

    /** As many of everything as there can be, in MINUTE 999, and nothing kept. */
    static HalfBoats full() {
        HalfBoats x = new HalfBoats();
        for (int i = 0; i < 12; i++) {
            x.way(i % 7, 7, 1 + i, i);
            x.sworn((1 << i) - 1);
        }
        for (int i = 0; i < 10; i++) {
            x.group(50 - i, i % 3, i % 8, i);
            x.call(10 * i);
        }
        for (int i = 0; i < 8; i++) {
            x.boat(60 + i % 3, i, 10 + i, i % 2);
            x.light(20 * i, i, 20);
        }
        for (int i = 0; i < 6; i++) {
            x.ship(5000 + 10 * i, 1 + i, 999, 50);
            Due.read(x, i == 5 ? "seats 1 for 9;" : "");
        }
        for (int i = 0; i < 7; i++) {
            x.leg(1 + i, i);
        }
        x.seat();
        x.set(3, 1, 1);
        for (int i = 0; i < 5; i++) {
            x.minutes(i == 4 ? 199 : 200);
        }
        for (int i = 0; i < 16; i++) {
            x.sounding(3, 60 - i, 0, 999);
        }
        for (int i = 0; i < 25; i++) {
            x.feed(0x2020202020202020L, 8);
        }
        return x;
    }

    /** SUNK in MINUTE 4. */
    static HalfBoats sunk() {
        HalfBoats x = new HalfBoats();
        for (int i = 0; i < 4; i++) {
            x.set(i, 0, 999);
            x.set(i, 1, 9);
        }
        x.minutes(6);
        return x;
    }

    /** Asks all of an object; it can't be used any more then. */
    static Look all(HalfBoats x) {
        Look look = new Look(x);
        look.hull();
        look.crowd();
        look.sea();
        look.words();
        look.host();
        look.hidden();
        return look;
    }

    /** The first call that another one answered otherwise, or an empty text. */
    String other(Look that) {
        for (int i = 0; i < calls.size(); i++) {
            if (!answers.get(i).equals(that.answers.get(i))) {
                return calls.get(i) + ": " + answers.get(i) + ", " + that.answers.get(i);
            }
        }
        return "";
    }

    private void add(String call, int answer) {
        calls.add(call);
        answers.add(answer);
    }

    private void many() {
        for (int what = 0; what <= 15; what++) {
            add("many " + what, x.many(what));
        }
    }

    private void hull() {
        many();
        for (int i = 0; i < 8; i++) {
            for (int what = 0; what < 3; what++) {
                add("cell " + i + " " + what, x.cell(i, what));
            }
        }
        add("sunk", x.sunk());
        add("sinks", x.sinks(-1, 0));
        add("explained 0", x.explained(0));
        add("explained 1", x.explained(1));
    }

    private void crowd() {
        for (int g = 0; g < 10; g++) {
            add("can " + g, x.can(g));
            add("reach " + g, x.reach(g, 3));
            for (int what = 0; what < 3; what++) {
                add("row " + g + " " + what, x.row(g, what));
            }
        }
        add("most", x.most());
        add("judge", x.judge());
        for (int what = -1; what < 2; what++) {
            add("order " + what, x.order(3, 5, what));
        }
    }

    private void sea() {
        for (int i = 0; i < 10; i++) {
            add("hears " + i, x.hears(i));
            add("comes " + i, x.comes(i));
            add("mayBe " + i, x.mayBe(i));
            add("sure " + i, x.sure(i));
            add("must " + i, x.must(i, 999));
        }
    }

    private void words() {
        for (int v = 0; v < 6; v++) {
            add("version " + v + " lines", x.version(v, 0));
            add("version " + v + " from", x.version(v, 1));
            add("version " + v + " sort", x.version(v, 10));
        }
        for (int k = 0; k < 3; k++) {
            add("rank " + k, x.rank(k, 999));
            add("standing", x.standing(k * 499));
            add("lack", x.lack(k * 499));
        }
        add("sure names", x.names(0));
        add("maybe names", x.names(1));
        add("risk", x.run(9999, -1));
        add("speed", x.run(300, 0));
    }

    private void host() {
        for (int i = 0; i < 4; i++) {
            for (int sort = 0; sort < 5; sort++) {
                add("item " + i + " " + sort, x.item(i, sort, 1));
                add("taken " + i + " " + sort, x.taken(i, sort));
                add("taken " + i + " row " + sort, x.taken(i, 10 + sort));
            }
            add("item 0 of " + i, x.item(i, 0, 0));
        }
        for (int i = 0; i < 7; i++) {
            add("trace " + i, x.trace(i));
        }
    }

    /** What is told by calls alone that change it. */
    private void hidden() {
        add("ready", x.ready(0));
        for (int i = 0; i < 8; i++) {
            add("room " + i, x.set(i, 0, 100));
            add("hole " + i, x.set(i, 1, 0));
            add("pump " + i, x.set(i, 2, 0));
            add("height " + i, x.wall(i, 0));
            add("door " + i, x.door(i, false));
            add("list " + i, x.list(i, 0));
            add("takeBack " + i, x.takeBack(i));
        }
        add("read", x.read());
        add("again", x.again());
        many();
    }
}
