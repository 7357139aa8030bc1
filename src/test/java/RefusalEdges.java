import java.util.function.Supplier;
import java.util.function.ToIntFunction;

/** The row ahead of 'Terms': what a refusal is, and which of several comes. */
final class RefusalEdges {
    private static final int MIN = Integer.MIN_VALUE;
    private static final int MAX = Integer.MAX_VALUE;

    private final Edges e;
    private Supplier<HalfBoats> made;
    private Look untouched;

    RefusalEdges(Edges e) {
        this.e = e;
    }

    void all() {
        numbers();
        firstNamed();
        changesNothing();
        changesNothingFull();
        changesNothingSunk();
        tapeIsUsedUp();
        hostRefuses();
    }

    private void numbers() {
        e.says("0", "BAD (-1) there is no such thing, or a number is not as told; FULL (-2); NONE (-3); STATE (-4);");
        e.is("BAD", HalfBoats.BAD, -1);
        e.is("FULL", HalfBoats.FULL, -2);
        e.is("NONE", HalfBoats.NONE, -3);
        e.is("STATE", HalfBoats.STATE, -4);
        HalfBoats x = Look.full();
        e.is("no such thing", x.can(10), -1);
        e.is("a number not as told", x.group(51, 0, 0, 0), -1);
        e.is("no room", x.group(50, 0, 0, 0), -2);
        e.is("nothing is kept", x.again(), -3);
        e.is("behind MINUTE 999", x.minutes(1), -4);
    }

    private void firstNamed() {
        e.says("0", "of several the first named:");
        HalfBoats x = Look.full();
        e.bad("minutes: BAD, STATE", x.minutes(201));
        e.bad("sounding: BAD, FULL", x.sounding(0, 61, 0, 0));
        e.bad("way: BAD, FULL", x.way(3, 3, 1, 0));
        e.bad("group: BAD, FULL", x.group(0, 0, 0, 0));
        e.bad("boat: BAD, FULL", x.boat(66, 0, 0, 0));
        e.bad("order: BAD, FULL", x.order(255, 0, -1));
        e.bad("order: BAD, NONE", x.order(3, 31, 9));
        e.full("order: FULL, NONE", x.order(255, 1, 9));
        e.bad("ship: BAD, FULL", x.ship(0, 0, 0, 0));
        e.bad("call: BAD, FULL", x.call(1000));
        e.bad("light: BAD, FULL", x.light(0, 1, 0));
        e.bad("sworn: BAD, FULL", x.sworn(1 << 12));
        e.bad("feed: BAD, FULL", x.feed(0, 9));
        e.bad("leg: BAD, FULL", x.leg(0, 0));
        e.bad("run: BAD, STATE", x.run(0, 7));
        HalfBoats y = Look.sunk();
        e.bad("sinks: BAD, STATE", y.sinks(-1, 101));
        y.sounding(0, 0, 1, 1);
        e.bad("explained: BAD, NONE", y.explained(2));
        e.bad("reach: BAD, NONE", y.reach(0, 1));
    }

    /** Asks one call of a new object, and looks whether another one that was not asked it is the same. */
    private void refused(String name, ToIntFunction<HalfBoats> call, int want) {
        HalfBoats x = made.get();
        e.is(name, call.applyAsInt(x), want);
        String other = Look.all(x).other(untouched);
        e.is(name + " changed something: " + other, other.isEmpty() ? 1 : 0, 1);
    }

    private void of(Supplier<HalfBoats> objects) {
        made = objects;
        untouched = Look.all(objects.get());
    }

    private void changesNothing() {
        e.says("0", "Answers below 0, where not told otherwise, are refusals; such a call changes nothing");
        of(Look::some);
        refused("minutes(0)", x -> x.minutes(0), -1);
        refused("minutes(201)", x -> x.minutes(201), -1);
        refused("set(8, 0, 50)", x -> x.set(8, 0, 50), -1);
        refused("set(0, 0, 9)", x -> x.set(0, 0, 9), -1);
        refused("set(0, 1, 10)", x -> x.set(0, 1, 10), -1);
        refused("set(0, 2, -1)", x -> x.set(0, 2, -1), -1);
        refused("set(0, 3, 5)", x -> x.set(0, 3, 5), -1);
        refused("wall(7, 5)", x -> x.wall(7, 5), -1);
        refused("wall(0, 101)", x -> x.wall(0, 101), -1);
        refused("door(7, true)", x -> x.door(7, true), -1);
        refused("cell(8, 0)", x -> x.cell(8, 0), -1);
        refused("sinks(7, 0)", x -> x.sinks(7, 0), -1);
        refused("sounding(8, 0, 0, 0)", x -> x.sounding(8, 0, 0, 0), -1);
        refused("sounding(0, 0, 5, 4)", x -> x.sounding(0, 0, 5, 4), -1);
        refused("explained(2)", x -> x.explained(2), -1);
        refused("way(0, 0, 1, 0)", x -> x.way(0, 0, 1, 0), -1);
        refused("group(1, 3, 0, 0)", x -> x.group(1, 3, 0, 0), -1);
        refused("reach(0, 7)", x -> x.reach(0, 7), -3);
        refused("boat(1, 0, 0, 2)", x -> x.boat(1, 0, 0, 2), -1);
        refused("can(2)", x -> x.can(2), -1);
        refused("row(0, 3)", x -> x.row(0, 3), -9);
        refused("alterRow(0, 3, 1)", x -> x.alterRow(0, 3, 1), -9);
        refused("alterRow(9, 0, 1)", x -> x.alterRow(9, 0, 1), -9);
        refused("order(3, 5, 2)", x -> x.order(3, 5, 2), -3);
        refused("order(8, 5, 0)", x -> x.order(8, 5, 0), -1);
        changesNothingAtSea();
        changesNothingAtTheHost();
    }

    private void changesNothingAtSea() {
        refused("ship(10000, 1, 0, 0)", x -> x.ship(10000, 1, 0, 0), -1);
        refused("ready(61)", x -> x.ready(61), -1);
        refused("call(-1)", x -> x.call(-1), -1);
        refused("hears(2)", x -> x.hears(2), -1);
        refused("comes(2)", x -> x.comes(2), -1);
        refused("light(0, 2, 1)", x -> x.light(0, 2, 1), -1);
        refused("mayBe(1)", x -> x.mayBe(1), -1);
        refused("sure(1)", x -> x.sure(1), -1);
        refused("list(3, 0)", x -> x.list(3, 0), -1);
        refused("list(0, -1)", x -> x.list(0, -1), -1);
        refused("names(2)", x -> x.names(2), -1);
        refused("sworn(8)", x -> x.sworn(8), -1);
        refused("takeBack(3)", x -> x.takeBack(3), -1);
        refused("takeBack(0)", x -> x.takeBack(0), -4);
        refused("standing(1000)", x -> x.standing(1000), -1);
        refused("feed(-1, 0)", x -> x.feed(-1, 0), -1);
        refused("feed(-1, 9)", x -> x.feed(-1, 9), -1);
        refused("version(1, 0)", x -> x.version(1, 0), -1);
        refused("lack(1000)", x -> x.lack(1000), -1);
        refused("rank(3, 0)", x -> x.rank(3, 0), -1);
        refused("must(2, 0)", x -> x.must(2, 0), -1);
        refused("leg(100, 0)", x -> x.leg(100, 0), -1);
        refused("run(0, 0)", x -> x.run(0, 0), -4);
        refused("run(10000, 0)", x -> x.run(10000, 0), -1);
    }

    private void changesNothingAtTheHost() {
        refused("sheet(0, 0, 41)", x -> x.sheet(0, 0, 41), -1);
        refused("sheet(0, 5, 1)", x -> x.sheet(0, 5, 1), -1);
        refused("sheet(0, 0, -1)", x -> x.sheet(0, 0, -1), -14);
        refused("sheet(0, 2, MIN)", x -> x.sheet(0, 2, MIN), -14);
        refused("put(0, 5, 1)", x -> x.put(0, 5, 1), -12);
        refused("put(0, -1, 1)", x -> x.put(0, -1, 1), -12);
        refused("put(2, 0, 1)", x -> x.put(2, 0, 1), -11);
        refused("put(4, 0, 1)", x -> x.put(4, 0, 1), -1);
        refused("item(0, 1, 0)", x -> x.item(0, 1, 0), -13);
        refused("item(2, 0, 0)", x -> x.item(2, 0, 0), -11);
        refused("item(0, 0, 5)", x -> x.item(0, 0, 5), -12);
        refused("item(0, 5, 0)", x -> x.item(0, 5, 0), -1);
        refused("sound(0, 61, 0, 0, 1)", x -> x.sound(0, 61, 0, 0, 1), -1);
        refused("sound(0, 0, 1, 0, 1)", x -> x.sound(0, 0, 1, 0, 1), -13);
        refused("sound(0, 0, 2, 0, 1)", x -> x.sound(0, 0, 2, 0, 1), -11);
        refused("sound(0, 0, 0, 5, 1)", x -> x.sound(0, 0, 0, 5, 1), -12);
        refused("sound(0, 0, 0, MAX, 9)", x -> x.sound(0, 0, 0, MAX, 9), -12);
        refused("shelf(0, 7, 0)", x -> x.shelf(0, 7, 0), -1);
        refused("shelf(0, 1, 3)", x -> x.shelf(0, 1, 3), -1);
        refused("taken(0, 7)", x -> x.taken(0, 7), -1);
        refused("taken(0, 2)", x -> x.taken(0, 2), -13);
        refused("taken(3, 0)", x -> x.taken(3, 0), -11);
        refused("trace(9)", x -> x.trace(9), -3);
        refused("many(16)", x -> x.many(16), -1);
    }

    private void changesNothingFull() {
        e.says("0", "such a call changes nothing");
        of(Look::full);
        refused("minutes(1)", x -> x.minutes(1), -4);
        refused("sounding", x -> x.sounding(0, 0, 0, 0), -2);
        refused("way", x -> x.way(0, 1, 1, 0), -2);
        refused("group", x -> x.group(1, 0, 0, 0), -2);
        refused("boat", x -> x.boat(1, 0, 0, 0), -2);
        refused("order", x -> x.order(127, 1, 0), -2);
        refused("ship", x -> x.ship(0, 1, 0, 0), -2);
        refused("call", x -> x.call(0), -2);
        refused("light", x -> x.light(0, 0, 0), -2);
        refused("sworn", x -> x.sworn(0), -2);
        refused("feed", x -> x.feed(-1L, 1), -2);
        refused("leg", x -> x.leg(1, 0), -2);
        refused("again", x -> x.again(), -3);
        refused("sinks", x -> x.sinks(-1, 0), -3);
    }

    private void changesNothingSunk() {
        e.says("0", "such a call changes nothing");
        of(Look::sunk);
        refused("sinks", x -> x.sinks(0, 0), -4);
        refused("minutes", x -> x.minutes(-1), -1);
        refused("comes", x -> x.comes(0), -1);
        refused("taken", x -> x.taken(0, 10), -11);
    }

    private void tapeIsUsedUp() {
        e.says("0", "(but that THE TAPE is used up by read())");
        HalfBoats x = new HalfBoats();
        Due.feed(x, "first nobody;");
        e.is("a FAULT", x.read(), -106);
        e.is("bytes left", x.many(12), 0);
        e.is("VERSIONS", x.many(9), 0);
        HalfBoats y = Look.full();
        e.full("read", y.read());
        e.is("bytes left", y.many(12), 0);
        e.is("VERSIONS", y.many(9), 6);
        e.is("THE RULES stay", y.version(5, 0), 1);
    }

    private void hostRefuses() {
        e.says("0", "and what the host refuses: -11 nothing where something is asked, -12 a place outside, -13 a thing of another sort or kind, -14 a size below 0, "
            + "-15 parted by 0.");
        HalfBoats x = Look.some();
        e.is("nothing where a row is asked", x.item(3, 0, 0), -11);
        e.is("nothing where a thing is asked", x.taken(3, 0), -11);
        e.is("a place outside", x.item(0, 0, 5), -12);
        e.is("a row of another sort", x.item(0, 1, 0), -13);
        e.is("a thing of another kind", x.taken(0, 2), -13);
        e.is("a size below 0", x.sheet(3, 0, -1), -14);
        x.shelf(3, 4, 0);
        e.is("parted by 0", x.act(3, 2, 5), -15);
    }
}
