/** Promises 1 to 11: each sentence that names a bound or a refused call. */
public final class DeedSentencesTest {
    private static final int[] NO_ROOMS = {-1, 6, Stores.LOWEST, Stores.HIGHEST};
    private static final int[] NO_KEYS = {-1, 100, Stores.LOWEST, Stores.HIGHEST};

    public static void main(String[] args) {
        promise01IsEmpty();
        promise02RoomZeroToFive();
        promise02SomeCandleBurns();
        promise02LengthZero();
        promise02ReturnsItsLength();
        promise03RoomsZeroToFive();
        promise03ItBurns();
        promise03LengthZero();
        promise03TheOtherDoesNotBurn();
        promise03NoOpenDoorBetween();
        promise03ReturnsItsLength();
        promise04RoomZeroToFive();
        promise04BoxIsEmpty();
        promise05DoorZeroToFive();
        promise05OneIfItWasOpen();
        promise06RoomZeroToFive();
        promise06OneIfItHad();
        promise07RoomZeroToFive();
        promise07StrengthOneToSix();
        promise07InPlaceOfOne();
        promise07AsThingsAreNow();
        promise08BeatsOneToFifty();
        promise09RoomZeroToFive();
        promise09KeyInRange();
        promise09KeyOrRoomTaken();
        promise09HowManyThen();
        promise10KeyInRange();
        promise10NoneWithoutTheThing();
        promise11BeatsOneToSixty();
        promise11HowManyAreForgotten();
        lastOfTheCalls();
        Check.end("DeedSentencesTest");
    }

    /** "without things, with an empty buffer". */
    private static void promise01IsEmpty() {
        CandleRooms x = new CandleRooms();
        Check.same("things", 0, x.count(3));
        Check.same("first error", 0, x.firstError());
        Check.badArgument("nothing to play", x, () -> x.play());
        Check.badState("nothing to undo", x, () -> x.undo());
        Check.same("the buffer", 0, x.clearBuffer());
        Check.same("the needy room", CandleRooms.NONE, x.needy());
        Check.same("next forgotten", CandleRooms.NONE, x.nextForgotten());
        Check.sameShare("in the light", 1.0, x.lit());
    }

    /** "room: 0 to 5". */
    private static void promise02RoomZeroToFive() {
        CandleRooms x = new CandleRooms();
        for (int room : NO_ROOMS) {
            Check.noRoom("strike(" + room + ")", x, () -> x.strike(room));
        }
        Check.same("strike(0)", 10, x.strike(0));
        x.undo();
        Check.same("strike(5)", 10, x.strike(5));
    }

    /** "if some candle burns": the lowest, the highest, itself. */
    private static void promise02SomeCandleBurns() {
        for (int room = 0; room < 6; room++) {
            for (int other = 0; other < 6; other++) {
                int second = other;
                CandleRooms x = new CandleRooms();
                x.strike(room);
                Check.badState(other + " while " + room + " burns", x, () -> x.strike(second));
            }
        }
    }

    /** "or its length is 0". */
    private static void promise02LengthZero() {
        CandleRooms x = Stores.burntDown(5);
        Check.badState("length 0", x, () -> x.strike(5));
        x.fresh(5);
        Check.same("a new one", 20, x.strike(5));
    }

    /** "Returns its length.": the least and the greatest one, and at first. */
    private static void promise02ReturnsItsLength() {
        CandleRooms x = Stores.stump(0);
        Check.same("1", 1, x.strike(0));
        Check.same("no beat passes", 1, x.room(0, 0));
        CandleRooms y = new CandleRooms();
        y.fresh(0);
        Check.same("20", 20, y.strike(0));
        Check.same("it is the room 0 alone", 1, y.count(2));
    }

    /** "room: 0 to 5, from: 0 to 5". */
    private static void promise03RoomsZeroToFive() {
        CandleRooms x = Stores.allLit();
        for (int room : NO_ROOMS) {
            Check.noRoom("light(" + room + ", 0)", x, () -> x.light(room, 0));
            Check.noRoom("light(5, " + room + ")", x, () -> x.light(5, room));
            Check.noRoom("both", x, () -> x.light(room, room));
        }
        x.fresh(0);
        Check.same("light(0, 5)", 20, x.light(0, 5));
        x.fresh(5);
        Check.same("light(5, 0)", 20, x.light(5, 0));
    }

    /** "if it burns". */
    private static void promise03ItBurns() {
        CandleRooms x = Stores.allLit();
        for (int room = 0; room < 6; room++) {
            int lit = room;
            Check.badState("from the next", x, () -> x.light(lit, Stores.next(lit)));
            Check.badState("from the previous", x, () -> x.light(lit, Stores.previous(lit)));
            Check.badState("from itself", x, () -> x.light(lit, lit));
        }
    }

    /** "or its length is 0". */
    private static void promise03LengthZero() {
        for (int room = 0; room < 6; room++) {
            int burnt = room;
            CandleRooms x = Stores.burntDown(room);
            x.strike(Stores.next(room));
            Check.badState("from the next", x, () -> x.light(burnt, Stores.next(burnt)));
            CandleRooms y = Stores.burntDown(room);
            y.strike(Stores.previous(room));
            Check.badState("from the previous", y, () -> y.light(burnt, Stores.previous(burnt)));
        }
    }

    /** "or the other one does not burn": never struck, burnt down, blown out, new. */
    private static void promise03TheOtherDoesNotBurn() {
        CandleRooms x = new CandleRooms();
        Check.badState("none was struck", x, () -> x.light(0, 1));
        x.strike(3);
        Check.badState("another one burns", x, () -> x.light(0, 1));
        CandleRooms y = Stores.burntDown(1);
        Check.badState("burnt down", y, () -> y.light(0, 1));
        CandleRooms z = Stores.stump(1);
        Check.badState("blown out", z, () -> z.light(0, 1));
        CandleRooms w = new CandleRooms();
        w.strike(1);
        w.fresh(1);
        Check.badState("replaced", w, () -> w.light(0, 1));
    }

    /** "or there is no open door between both rooms". */
    private static void promise03NoOpenDoorBetween() {
        for (int from = 0; from < 6; from++) {
            int lit = from;
            CandleRooms x = new CandleRooms();
            x.strike(from);
            x.door(from, false);
            x.door(Stores.previous(from), false);
            for (int room = 0; room < 6; room++) {
                int dark = room;
                Check.badState("both doors shut, to " + room, x, () -> x.light(dark, lit));
            }
            x.door(from, true);
            Check.same("through its own door", 10, x.light(Stores.next(from), from));
            x.door(from, false);
            x.door(Stores.previous(from), true);
            Check.same("through the one behind", 10, x.light(Stores.previous(from), from));
        }
    }

    /** "Returns its length.": its own, not the other one's. */
    private static void promise03ReturnsItsLength() {
        CandleRooms x = Stores.stump(2);
        x.strike(3);
        x.pass(1);
        Check.same("1 of 9", 1, x.light(2, 3));
        Check.same("the other one", 9, x.room(3, 0));
        x.fresh(4);
        Check.same("20 of 9", 20, x.light(4, 3));
        Check.same("no beat passes", 7, x.count(0));
    }

    private static void promise04RoomZeroToFive() {
        CandleRooms x = new CandleRooms();
        for (int room : NO_ROOMS) {
            Check.noRoom("fresh(" + room + ")", x, () -> x.fresh(room));
        }
        Check.same("fresh(0)", 11, x.fresh(0));
        Check.same("fresh(5)", 10, x.fresh(5));
        int[] lengths = {20, 10, 10, 10, 10, 20};
        for (int room = 0; room < 6; room++) {
            Check.same("length", lengths[room], x.room(room, 0));
        }
    }

    /** "if the box is empty". */
    private static void promise04BoxIsEmpty() {
        CandleRooms x = new CandleRooms();
        for (int left = 11; left >= 0; left--) {
            Check.same("left", left, x.fresh(2));
        }
        Check.badState("empty", x, () -> x.fresh(2));
        Check.badState("empty for another room", x, () -> x.fresh(3));
        for (int room : NO_ROOMS) {
            Check.noRoom("no room, and empty", x, () -> x.fresh(room));
        }
    }

    /** "door: 0 to 5". */
    private static void promise05DoorZeroToFive() {
        CandleRooms x = new CandleRooms();
        for (int door : NO_ROOMS) {
            Check.noRoom("open " + door, x, () -> x.door(door, true));
            Check.noRoom("shut " + door, x, () -> x.door(door, false));
        }
        Check.same("door(0)", 1, x.door(0, false));
        Check.same("door(5)", 1, x.door(5, false));
    }

    /** "Returns 1 if it was open, otherwise 0.": also if it stays as it was. */
    private static void promise05OneIfItWasOpen() {
        for (int door = 0; door < 6; door++) {
            CandleRooms x = new CandleRooms();
            Check.same("open, opened", 1, x.door(door, true));
            Check.same("open, shut", 1, x.door(door, false));
            Check.same("shut, shut", 0, x.door(door, false));
            Check.same("it is shut", 0, x.room(door, 5));
            Check.same("shut, opened", 0, x.door(door, true));
            Check.same("it is open", 1, x.room(door, 5));
        }
    }

    private static void promise06RoomZeroToFive() {
        CandleRooms x = new CandleRooms();
        for (int room : NO_ROOMS) {
            Check.noRoom("give " + room, x, () -> x.shield(room, true));
            Check.noRoom("take " + room, x, () -> x.shield(room, false));
        }
        Check.same("shield(0)", 0, x.shield(0, true));
        Check.same("shield(5)", 0, x.shield(5, true));
    }

    /** "Returns 1 if it had, otherwise 0.": also if it stays as it was. */
    private static void promise06OneIfItHad() {
        for (int room = 0; room < 6; room++) {
            CandleRooms x = new CandleRooms();
            Check.same("none, taken", 0, x.shield(room, false));
            Check.same("none, given", 0, x.shield(room, true));
            Check.same("one, given", 1, x.shield(room, true));
            Check.same("it has one", 1, x.room(room, 3));
            Check.same("one, taken", 1, x.shield(room, false));
            Check.same("it has none", 0, x.room(room, 3));
        }
    }

    private static void promise07RoomZeroToFive() {
        CandleRooms x = new CandleRooms();
        for (int room : NO_ROOMS) {
            Check.noRoom("draught(" + room + ", 1)", x, () -> x.draught(room, 1));
        }
        Check.same("draught(0, 1)", 0, x.draught(0, 1));
        Check.same("its room", 0, x.count(8));
        Check.same("draught(5, 6)", 0, x.draught(5, 6));
        Check.same("its room", 5, x.count(8));
    }

    /** "strength: 1 to 6". */
    private static void promise07StrengthOneToSix() {
        CandleRooms x = Stores.allLit();
        for (int strength : new int[] {0, -1, 7, Stores.LOWEST, Stores.HIGHEST}) {
            Check.badArgument("strength " + strength, x, () -> x.draught(0, strength));
            Check.noRoom("no room either", x, () -> x.draught(6, strength));
        }
        Check.same("none has begun", -1, x.count(8));
        Check.same("strength 1", 1, x.draught(0, 1));
        Check.same("strength 6", 6, x.draught(0, 6));
        Check.badArgument("strength 7", x, () -> x.draught(1, 7));
        Check.same("a refused one is in nobody's place", 6, x.count(9));
    }

    /** "in place of one that has not blown yet". */
    private static void promise07InPlaceOfOne() {
        CandleRooms x = Stores.allLit();
        x.draught(0, 6);
        Check.same("a weaker one", 1, x.draught(3, 1));
        x.pass(1);
        Check.same("only the later one blows", 1, x.count(7));
        Check.same("in its room", 0, x.room(3, 1));
        x.pass(1);
        Check.same("and no other behind it", 1, x.count(7));
        x.draught(3, 1);
        Check.same("behind one that has blown", 1, x.draught(4, 1));
    }

    /** "how many candles it would blow out, as things are now". */
    private static void promise07AsThingsAreNow() {
        CandleRooms x = new CandleRooms();
        x.strike(0);
        x.pass(6);
        Check.same("it would burn down first", 1, x.draught(5, 2));
        Check.same("none is blown out by the call", 1, x.count(2));
        Check.same("none is counted", 0, x.count(7));
        x.pass(1);
        Check.same("none burns", 0, x.draught(5, 6));
    }

    private static void promise08BeatsOneToFifty() {
        CandleRooms x = new CandleRooms();
        for (int beats : new int[] {0, -1, 51, Stores.LOWEST, Stores.HIGHEST}) {
            Check.badArgument("set(" + beats + ")", x, () -> x.set(beats));
        }
        int previous = 12;
        for (int beats = 1; beats <= 50; beats++) {
            Check.same("set(" + beats + ")", previous, x.set(beats));
            previous = beats;
        }
        Check.same("the same again", 50, x.set(50));
    }

    private static void promise09RoomZeroToFive() {
        CandleRooms x = new CandleRooms();
        x.keep(3, 50);
        for (int room : NO_ROOMS) {
            Check.noRoom("keep(" + room + ", 0)", x, () -> x.keep(room, 0));
            Check.noRoom("and no key", x, () -> x.keep(room, 100));
            Check.noRoom("and a key that is taken", x, () -> x.keep(room, 50));
        }
        Check.same("keep(0, 0)", 1, x.keep(0, 0));
        Check.same("keep(5, 99)", 1, x.keep(5, 99));
    }

    private static void promise09KeyInRange() {
        CandleRooms x = Stores.full();
        for (int key : NO_KEYS) {
            Check.badArgument("key " + key + ", and full", x, () -> x.keep(5, key));
        }
        CandleRooms y = new CandleRooms();
        for (int key : NO_KEYS) {
            Check.badArgument("key " + key, y, () -> y.keep(5, key));
        }
    }

    /** "if a thing has this key, or the room has 4". */
    private static void promise09KeyOrRoomTaken() {
        CandleRooms x = Stores.full();
        for (int key = 0; key < 24; key++) {
            int taken = key;
            Check.badState("both, key " + key, x, () -> x.keep(5, taken));
        }
        CandleRooms y = new CandleRooms();
        for (int key = 0; key < 4; key++) {
            y.keep(1, key);
        }
        for (int key = 0; key < 4; key++) {
            int taken = key;
            Check.badState("the key " + key + " alone", y, () -> y.keep(2, taken));
        }
        Check.badState("the room alone", y, () -> y.keep(1, 4));
    }

    /** "Returns how many things the room has then.": 1 to 4. */
    private static void promise09HowManyThen() {
        CandleRooms x = new CandleRooms();
        for (int room = 0; room < 6; room++) {
            for (int things = 1; things <= 4; things++) {
                Check.same("then", things, x.keep(room, 10 * room + things));
                Check.same("in the room", things, x.room(room, 4));
            }
        }
    }

    private static void promise10KeyInRange() {
        CandleRooms x = new CandleRooms();
        for (int key : NO_KEYS) {
            Check.badArgument("read(" + key + ")", x, () -> x.read(key));
        }
        x.keep(0, 0);
        x.keep(5, 99);
        Check.same("read(0)", 0, x.read(0));
        Check.same("read(99)", 5, x.read(99));
    }

    /** "NONE if no thing has this key (no beats pass then)". */
    private static void promise10NoneWithoutTheThing() {
        CandleRooms x = Stores.allLit();
        x.keep(0, 1);
        x.draught(2, 2);
        for (int key : new int[] {0, 2, 99}) {
            Check.same("read(" + key + ")", CandleRooms.NONE, x.read(key));
        }
        Check.same("no beats", 0, x.count(0));
        Check.same("no readings", 0, x.count(5));
        Check.same("the draught waits still", 2, x.count(8));
        Check.same("no candle is shorter", 10, x.room(0, 0));
        CandleRooms y = new CandleRooms();
        y.keep(4, 7);
        y.pass(12);
        Check.same("forgotten", CandleRooms.NONE, y.read(7));
        Check.same("no beats for it", 12, y.count(0));
    }

    /** "beats: 1 to 60". */
    private static void promise11BeatsOneToSixty() {
        CandleRooms x = new CandleRooms();
        for (int beats : new int[] {0, -1, 61, Stores.LOWEST, Stores.HIGHEST}) {
            Check.badArgument("pass(" + beats + ")", x, () -> x.pass(beats));
        }
        x.pass(1);
        Check.same("1", 1, x.count(0));
        x.pass(60);
        Check.same("60 more", 61, x.count(0));
        Check.same("each is one call", 2, x.count(11));
        x.undo();
        Check.same("60 are undone at once", 1, x.count(0));
    }

    /** "Returns how many things are forgotten in them.": none, some, all. */
    private static void promise11HowManyAreForgotten() {
        CandleRooms x = Stores.full();
        Check.same("none", 0, x.pass(11));
        x.strike(0);
        Check.same("all but those in the light", 20, x.pass(1));
        // The candle burns 6 beats more; in the last one of them it is dark for the first time.
        Check.same("none", 0, x.pass(16));
        Check.same("the last four", 4, x.pass(1));
        Check.same("none is left", 0, x.pass(60));
        CandleRooms y = Stores.full();
        Check.same("all at once", 24, y.pass(60));
    }

    /** "at most 512 calls": the last one is answered as all the others. */
    private static void lastOfTheCalls() {
        CandleRooms x = new CandleRooms();
        for (int call = 1; call <= 511; call++) {
            x.pass(60);
        }
        Check.same("call 512", 30660, x.count(0));
        CandleRooms y = new CandleRooms();
        for (int call = 1; call <= 511; call++) {
            y.set(1 + call % 50);
        }
        Check.same("call 512", 5, y.undo());
        CandleRooms z = new CandleRooms();
        for (int call = 1; call <= 510; call++) {
            z.draught(call % 6, 6);
        }
        z.undo();
        Check.same("call 512", 5, z.count(8));
    }
}
