/** Promises 9 to 11: things that are kept, read and forgotten. */
public final class ThingsTest {
    private static final int[] NO_KEYS = {-1, 100, Integer.MIN_VALUE, Integer.MAX_VALUE};

    public static void main(String[] args) {
        promise09Keep();
        promise09KeepRefused();
        promise10Read();
        promise10ReadInTheDark();
        promise10ReadForgets();
        promise11Pass();
        promise11PassForgets();
        promise11Light();
        Check.end("ThingsTest");
    }

    private static void promise09Keep() {
        CandleRooms x = new CandleRooms();
        Check.same("keep", 1, x.keep(0, 99));
        Check.same("keep", 2, x.keep(0, 0));
        Check.same("keep", 3, x.keep(0, 50));
        Check.same("keep", 4, x.keep(0, 7));
        Check.same("keep elsewhere", 1, x.keep(5, 8));
        Check.same("keep saves", 5, x.count(11));
        int[] keys = {99, 0, 50, 7};
        for (int place = 0; place < 4; place++) {
            Check.same("its room", 0, x.thing(keys[place], 0));
            Check.same("its beats", 0, x.thing(keys[place], 1));
            Check.same("its place", place, x.thing(keys[place], 2));
        }
        Check.same("first thing", 99, x.room(0, 7));
        Check.same("things", 5, x.count(3));
    }

    private static void promise09KeepRefused() {
        CandleRooms x = new CandleRooms();
        x.keep(2, 10);
        for (int key : NO_KEYS) {
            Check.badArgument("keep key " + key, x, () -> x.keep(0, key));
            Check.noRoom("keep, two exceptions", x, () -> x.keep(6, key));
        }
        Check.noRoom("keep in no room", x, () -> x.keep(-1, 4));
        Check.noRoom("keep a key twice in no room", x, () -> x.keep(6, 10));
        Check.badState("keep a key twice", x, () -> x.keep(2, 10));
        Check.badState("keep a key twice in another room", x, () -> x.keep(5, 10));
        x.keep(2, 11);
        x.keep(2, 12);
        x.keep(2, 13);
        Check.badState("keep in a full room", x, () -> x.keep(2, 14));
        Check.badArgument("keep a bad key in a full room", x, () -> x.keep(2, 100));
        Check.same("keep beside a full room", 1, x.keep(3, 14));
        x.pass(12);
        Check.same("keep a key that was forgotten", 1, x.keep(4, 10));
    }

    private static void promise10Read() {
        CandleRooms x = new CandleRooms();
        for (int key : NO_KEYS) {
            Check.badArgument("read(" + key + ")", x, () -> x.read(key));
        }
        Check.same("read what is not there", -1, x.read(5));
        Check.same("no beats then", 0, x.count(0));
        Check.same("no reading then", 0, x.count(5));
        Check.same("but saved", 1, x.count(11));
        x.keep(4, 5);
        x.strike(4);
        x.light(3, 4);
        x.pass(3);
        Check.same("read", 4, x.read(5));
        Check.same("one beat in the light", 4, x.count(0));
        Check.same("trimmed ahead of the beat", 6, x.room(4, 0));
        Check.same("wick behind the beat", 1, x.room(4, 2));
        Check.same("the other one is not trimmed", 5, x.room(3, 0));
        Check.same("the other one's wick", 4, x.room(3, 2));
        Check.same("readings", 1, x.count(5));
        Check.same("none in the dark", 0, x.count(6));
        Check.same("read saves", 6, x.count(11));
        x.draught(4, 1);
        Check.same("read in a draught", 4, x.read(5));
        Check.same("it was lit when the reading began", 5, x.count(0));
        Check.same("it counts as read in the light", 0, x.count(6));
        Check.same("dark behind it", 1, x.thing(5, 1));
        CandleRooms y = new CandleRooms();
        y.keep(0, 0);
        y.strike(0);
        for (int left = 9; left >= 1; left--) {
            y.read(0);
            Check.same("read on and on", left, y.room(0, 0));
        }
        y.read(0);
        Check.same("burnt down in the last reading", 0, y.room(0, 1));
        Check.same("ten beats", 10, y.count(0));
    }

    private static void promise10ReadInTheDark() {
        CandleRooms x = new CandleRooms();
        x.keep(1, 5);
        x.strike(1);
        x.pass(2);
        x.draught(1, 1);
        x.pass(1);
        Check.same("read in the dark", 1, x.read(5));
        Check.same("three beats more", 6, x.count(0));
        Check.same("the wick of a dark room stays", 3, x.room(1, 2));
        Check.same("readings", 1, x.count(5));
        Check.same("of these in the dark", 1, x.count(6));
        Check.same("dark beats", 4, x.thing(5, 1));
        Check.same("read again", 1, x.read(5));
        Check.same("of these in the dark", 2, x.count(6));
    }

    private static void promise10ReadForgets() {
        CandleRooms x = new CandleRooms();
        x.keep(1, 5);
        x.set(2);
        Check.same("its room, though it is forgotten", 1, x.read(5));
        Check.same("it is gone", -1, x.thing(5, 0));
        Check.same("forgotten", 1, x.count(4));
        Check.same("all three beats pass", 3, x.count(0));
        Check.same("read again", -1, x.read(5));
        Check.same("only what was there counts", 1, x.count(5));
        Check.same("no beats for it", 3, x.count(0));
        x.undo();
        x.undo();
        Check.same("undo brings it back", 1, x.thing(5, 0));
        Check.same("undo takes the readings back", 0, x.count(5));
    }

    private static void promise11Pass() {
        CandleRooms x = new CandleRooms();
        for (int beats : new int[] {0, -1, 61, Integer.MAX_VALUE, Integer.MIN_VALUE}) {
            Check.badArgument("pass(" + beats + ")", x, () -> x.pass(beats));
        }
        Check.same("pass", 0, x.pass(60));
        Check.same("beats", 60, x.count(0));
        Check.same("pass", 0, x.pass(1));
        Check.same("beats", 61, x.count(0));
        Check.same("pass is saved as one call", 2, x.count(11));
        Check.same("undo of one", 1, x.undo());
        Check.same("undo of sixty", 0, x.undo());
        Check.same("no beats", 0, x.count(0));
    }

    private static void promise11PassForgets() {
        CandleRooms x = new CandleRooms();
        x.keep(0, 1);
        x.pass(2);
        x.keep(0, 2);
        x.keep(0, 3);
        x.keep(4, 4);
        Check.same("not yet", 0, x.pass(9));
        Check.same("the first one", 1, x.pass(1));
        Check.same("those behind it move up", 0, x.thing(2, 2));
        Check.same("those behind it move up", 1, x.thing(3, 2));
        Check.same("with their beats", 10, x.thing(3, 1));
        Check.same("the first key now", 2, x.room(0, 7));
        Check.same("a new one comes last", 3, x.keep(0, 9));
        Check.same("its place", 2, x.thing(9, 2));
        Check.same("its beats are its own", 0, x.thing(9, 1));
        Check.same("not yet", 0, x.pass(1));
        Check.same("three at once", 3, x.pass(1));
        Check.same("forgotten so far", 4, x.count(4));
        Check.same("things left", 1, x.count(3));
        Check.same("the last one", 1, x.pass(60));
        Check.same("nothing is left", -1, x.room(0, 7));
    }

    private static void promise11Light() {
        CandleRooms x = new CandleRooms();
        x.keep(0, 1);
        x.keep(1, 2);
        x.pass(5);
        x.strike(0);
        Check.same("light alone changes no beats in the dark", 5, x.thing(1, 1));
        x.pass(1);
        Check.same("in the light it is 0", 0, x.thing(1, 1));
        Check.same("in the dark it goes on", 6, x.thing(2, 1));
        x.pass(5);
        Check.same("lit still", 0, x.thing(1, 1));
        x.pass(1);
        Check.same("the beat in which the candle goes out is dark", 1, x.thing(1, 1));
        Check.same("forgotten as the setting tells", -1, x.thing(2, 1));
        CandleRooms y = new CandleRooms();
        y.keep(0, 1);
        y.set(1);
        y.strike(0);
        Check.same("lit, it stays at the lowest setting", 0, y.pass(6));
        Check.same("dark, it goes at once", 1, y.pass(1));
        CandleRooms z = new CandleRooms();
        z.keep(0, 1);
        z.strike(0);
        z.pass(1);
        z.draught(0, 1);
        z.pass(1);
        Check.same("the beat of the draught is dark", 1, z.thing(1, 1));
    }
}
