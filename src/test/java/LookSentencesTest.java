/** Promises 17 to 26: each sentence that names a bound or a refused call. */
public final class LookSentencesTest {
    private static final int[] NO_ROOMS = {-1, 6, Stores.LOWEST, Stores.HIGHEST};

    public static void main(String[] args) {
        promise17RoomAndNumberInRange();
        promise17LeastAndGreatestNumbers();
        promise17BurntSoFarAllTogether();
        promise17NoneWithoutThings();
        promise18KeyAndNumberInRange();
        promise18NoneWithoutTheThing();
        promise18EachPlace();
        promise19NumberInRange();
        promise19DraughtNoneAndZero();
        promise19OnlyReadingsOfThings();
        promise20RoomInRange();
        promise20ZeroIfItDoesNotBurn();
        promise20LastBeat();
        promise20IfNothingIsDone();
        promise21NoneWithoutThings();
        promise21InTheLastOfThese();
        promise21LitThings();
        promise21LightThatNeverSetsBack();
        promise22RoomInRange();
        promise22ZeroOneNone();
        promise22FewestOfBothWays();
        promise22LengthsAboveZero();
        promise23NoneWithoutThings();
        promise23ShortestMostLowest();
        promise24RoomInRange();
        promise24ZeroIfItDoesNotBurn();
        promise24AlwaysLessNever();
        promise25OneWithoutThings();
        promise25NoneToAll();
        promise26StartsAndOverflows();
        promise26EmptyAndFull();
        looksChangeNothing();
        Check.end("LookSentencesTest");
    }

    /** "room: 0 to 5", "if what is not 0 to 7". */
    private static void promise17RoomAndNumberInRange() {
        CandleRooms x = Stores.full();
        for (int room : NO_ROOMS) {
            Check.noRoom("room " + room, x, () -> x.room(room, 0));
            Check.noRoom("and no number", x, () -> x.room(room, -1));
        }
        for (int what : new int[] {-1, 8, Stores.LOWEST, Stores.HIGHEST}) {
            Check.badArgument("number " + what, x, () -> x.room(0, what));
            Check.badArgument("number " + what, x, () -> x.room(5, what));
        }
        Check.same("room(0, 0)", 10, x.room(0, 0));
        Check.same("room(5, 7)", 20, x.room(5, 7));
    }

    private static void promise17LeastAndGreatestNumbers() {
        CandleRooms x = Stores.burntDown(0);
        x.door(0, false);
        int[] least = {0, 0, 6, 0, 0, 0, 7, -1};
        for (int what = 0; what < 8; what++) {
            Check.same("room(0, " + what + ")", least[what], x.room(0, what));
        }
        CandleRooms y = Stores.trimmed(true, 0, 0);
        y.shield(0, true);
        y.keep(0, 99);
        y.keep(0, 0);
        y.keep(0, 50);
        int[] greatest = {20, 1, 0, 1, 4, 1, 0, 1};
        for (int what = 0; what < 8; what++) {
            Check.same("room(0, " + what + ")", greatest[what], y.room(0, what));
        }
    }

    /** "the beats for which its candle has burnt so far, all its candles together". */
    private static void promise17BurntSoFarAllTogether() {
        CandleRooms x = Stores.burntDown(3);
        Check.same("burnt down in 7", 7, x.room(3, 6));
        x.pass(5);
        Check.same("dark beats are none", 7, x.room(3, 6));
        x.fresh(3);
        Check.same("a new one adds none", 7, x.room(3, 6));
        x.strike(3);
        x.pass(60);
        Check.same("burnt down in 10 of 60", 17, x.room(3, 6));
        Check.same("another room", 0, x.room(2, 6));
    }

    /** "the key of its first thing, NONE without things". */
    private static void promise17NoneWithoutThings() {
        CandleRooms x = new CandleRooms();
        Check.same("never one", CandleRooms.NONE, x.room(0, 7));
        x.keep(0, 0);
        Check.same("the key 0", 0, x.room(0, 7));
        Check.same("another room", CandleRooms.NONE, x.room(1, 7));
        x.pass(12);
        Check.same("forgotten", CandleRooms.NONE, x.room(0, 7));
    }

    /** "if key is out of range, or what is not 0 to 2". */
    private static void promise18KeyAndNumberInRange() {
        CandleRooms x = Stores.full();
        for (int key : new int[] {-1, 100, Stores.LOWEST, Stores.HIGHEST}) {
            for (int what = -1; what <= 3; what++) {
                int number = what;
                Check.badArgument("key " + key, x, () -> x.thing(key, number));
            }
        }
        for (int what : new int[] {-1, 3, Stores.LOWEST, Stores.HIGHEST}) {
            Check.badArgument("number " + what, x, () -> x.thing(0, what));
            Check.badArgument("number " + what + " of no thing", x, () -> x.thing(99, what));
        }
        Check.same("thing(23, 2)", 3, x.thing(23, 2));
    }

    /** "NONE if no thing has this key". */
    private static void promise18NoneWithoutTheThing() {
        CandleRooms x = new CandleRooms();
        x.keep(0, 1);
        for (int what = 0; what < 3; what++) {
            Check.same("a lower key", CandleRooms.NONE, x.thing(0, what));
            Check.same("the highest key", CandleRooms.NONE, x.thing(99, what));
            Check.same("the thing", 0, x.thing(1, what));
        }
        x.pass(12);
        for (int what = 0; what < 3; what++) {
            Check.same("forgotten", CandleRooms.NONE, x.thing(1, what));
        }
    }

    /** "its place in the room, from 0". */
    private static void promise18EachPlace() {
        CandleRooms x = Stores.full();
        x.pass(11);
        for (int key = 0; key < 24; key++) {
            Check.same("room", key / 4, x.thing(key, 0));
            Check.same("beats", 11, x.thing(key, 1));
            Check.same("place", key % 4, x.thing(key, 2));
        }
    }

    /** "if what is not 0 to 11". */
    private static void promise19NumberInRange() {
        CandleRooms x = Stores.full();
        for (int what : new int[] {-1, 12, Stores.LOWEST, Stores.HIGHEST}) {
            Check.badArgument("count(" + what + ")", x, () -> x.count(what));
        }
        Check.same("count(0)", 0, x.count(0));
        Check.same("count(11)", 6, x.count(11));
    }

    /** "the room of the draught, NONE without one", "its strength, 0 without one". */
    private static void promise19DraughtNoneAndZero() {
        CandleRooms x = new CandleRooms();
        Check.same("never one, room", CandleRooms.NONE, x.count(8));
        Check.same("never one, strength", 0, x.count(9));
        x.draught(0, 1);
        Check.same("in the room 0", 0, x.count(8));
        Check.same("of the strength 1", 1, x.count(9));
        x.draught(5, 6);
        Check.same("in the room 5", 5, x.count(8));
        Check.same("of the strength 6", 6, x.count(9));
        x.pass(1);
        Check.same("over, room", CandleRooms.NONE, x.count(8));
        Check.same("over, strength", 0, x.count(9));
        x.undo();
        x.undo();
        x.undo();
        Check.same("undone, room", CandleRooms.NONE, x.count(8));
    }

    /** "readings so far (of things that were there)", "of these in the dark". */
    private static void promise19OnlyReadingsOfThings() {
        CandleRooms x = new CandleRooms();
        x.read(5);
        Check.same("none was there", 0, x.count(5));
        Check.same("nor in the dark", 0, x.count(6));
        x.keep(0, 5);
        x.read(5);
        Check.same("one was", 1, x.count(5));
        Check.same("in the dark", 1, x.count(6));
        x.strike(0);
        x.read(5);
        Check.same("and in the light", 2, x.count(5));
        Check.same("one in the dark", 1, x.count(6));
        x.pass(60);
        x.read(5);
        Check.same("forgotten", 2, x.count(5));
    }

    private static void promise20RoomInRange() {
        CandleRooms x = Stores.allLit();
        for (int room : NO_ROOMS) {
            Check.noRoom("lasts(" + room + ")", x, () -> x.lasts(room));
        }
        Check.same("lasts(0)", 7, x.lasts(0));
        Check.same("lasts(5)", 7, x.lasts(5));
    }

    /** "0 if it does not burn now". */
    private static void promise20ZeroIfItDoesNotBurn() {
        Check.same("never struck", 0, new CandleRooms().lasts(0));
        Check.same("burnt down", 0, Stores.burntDown(2).lasts(2));
        Check.same("blown out", 0, Stores.stump(2).lasts(2));
        CandleRooms x = Stores.allLit();
        x.fresh(2);
        Check.same("replaced", 0, x.lasts(2));
        x.draught(2, 1);
        Check.same("in a draught", 0, x.lasts(2));
    }

    /** "the beats behind which its candle does not burn any more": counted out, each one. */
    private static void promise20LastBeat() {
        for (int readings = 0; readings <= 19; readings++) {
            for (int beats = 0; beats <= 9; beats += 3) {
                CandleRooms x = Stores.trimmed(true, readings, beats);
                int told = x.lasts(0);
                int counted = 0;
                while (x.room(0, 1) == 1) {
                    x.pass(1);
                    counted++;
                }
                Check.same("behind " + readings + " and " + beats, counted, told);
            }
        }
        CandleRooms y = Stores.stump(0);
        y.strike(0);
        Check.same("one beat", 1, y.lasts(0));
    }

    /** "if nothing is done": a draught that has begun blows. */
    private static void promise20IfNothingIsDone() {
        CandleRooms x = Stores.allLit();
        x.shield(3, true);
        x.draught(1, 6);
        int[] due = {7, 1, 1, 7, 7, 7};
        for (int room = 0; room < 6; room++) {
            Check.same("lasts(" + room + ")", due[room], x.lasts(room));
        }
        x.pass(1);
        int[] then = {6, 0, 0, 6, 6, 6};
        for (int room = 0; room < 6; room++) {
            Check.same("then lasts(" + room + ")", then[room], x.lasts(room));
        }
    }

    /** "NONE without things". */
    private static void promise21NoneWithoutThings() {
        CandleRooms x = new CandleRooms();
        Check.same("never one", CandleRooms.NONE, x.nextForgotten());
        x.strike(0);
        Check.same("lit", CandleRooms.NONE, x.nextForgotten());
        x.keep(0, 1);
        x.pass(60);
        Check.same("forgotten", CandleRooms.NONE, x.nextForgotten());
    }

    /** "behind how many beats, in the last one of these": in the dark, 1 to 50. */
    private static void promise21InTheLastOfThese() {
        for (int setting = 1; setting <= 50; setting++) {
            CandleRooms x = new CandleRooms();
            x.set(setting);
            x.keep(4, 1);
            Check.same("setting " + setting, setting, x.nextForgotten());
            if (setting > 1) {
                Check.same("not before", 0, x.pass(setting - 1));
            }
            Check.same("the last one", 1, x.nextForgotten());
            Check.same("in it", 1, x.pass(1));
        }
        CandleRooms y = new CandleRooms();
        y.keep(0, 1);
        y.pass(8);
        y.set(2);
        Check.same("more than the setting already", 1, y.nextForgotten());
    }

    /** Counted out, with a burning candle of each length and wick. */
    private static void promise21LitThings() {
        for (int readings = 0; readings <= 19; readings += 3) {
            for (int beats = 0; beats <= 9; beats += 3) {
                for (int setting = 1; setting <= 12; setting += 11) {
                    CandleRooms x = Stores.trimmed(true, readings, beats);
                    x.set(setting);
                    int told = x.nextForgotten();
                    int counted = 0;
                    while (x.count(3) == 1 && counted < 60) {
                        x.pass(1);
                        counted++;
                    }
                    String what = readings + " readings, " + beats + " beats, " + setting;
                    Check.same(what, x.count(3) == 1 ? -2 : counted, told == -1 ? 0 : told);
                }
            }
        }
    }

    /** A candle that goes out in the next beat sets no thing back to 0. */
    private static void promise21LightThatNeverSetsBack() {
        CandleRooms x = Stores.stump(0);
        x.keep(0, 1);
        x.pass(11);
        x.strike(0);
        Check.same("burnt down in the next beat", 1, x.nextForgotten());
        x.set(50);
        Check.same("39 more", 39, x.nextForgotten());
        CandleRooms y = new CandleRooms();
        y.keep(0, 1);
        y.pass(11);
        y.strike(0);
        Check.same("7 lit ones", 18, y.nextForgotten());
        y.draught(5, 2);
        Check.same("blown out in the next beat", 1, y.nextForgotten());
        y.shield(0, true);
        Check.same("shielded", 18, y.nextForgotten());
    }

    private static void promise22RoomInRange() {
        CandleRooms x = new CandleRooms();
        for (int room : NO_ROOMS) {
            Check.noRoom("carried(" + room + ")", x, () -> x.carried(room));
        }
        x.strike(2);
        for (int room : NO_ROOMS) {
            Check.noRoom("carried(" + room + ")", x, () -> x.carried(room));
        }
        Check.same("carried(0)", 2, x.carried(0));
        Check.same("carried(5)", 3, x.carried(5));
    }

    /** "0 if it is lit", "1 (struck), if its length is above 0", "NONE if it cannot be done". */
    private static void promise22ZeroOneNone() {
        CandleRooms x = Stores.allLit();
        for (int room = 0; room < 6; room++) {
            Check.same("lit", 0, x.carried(room));
        }
        x.pass(7);
        for (int room = 0; room < 6; room++) {
            Check.same("none burns, length 0", CandleRooms.NONE, x.carried(room));
        }
        Check.same("struck, length 1", 1, Stores.stump(3).carried(3));
        CandleRooms y = new CandleRooms();
        for (int door = 0; door < 6; door++) {
            y.door(door, false);
        }
        Check.same("struck behind shut doors", 1, y.carried(3));
        y.strike(0);
        Check.same("lit behind shut doors", 0, y.carried(0));
        for (int room = 1; room < 6; room++) {
            Check.same("all doors are shut", CandleRooms.NONE, y.carried(room));
        }
    }

    /** "the fewest", "with its own": each burning room and each shut door. */
    private static void promise22FewestOfBothWays() {
        for (int from = 0; from < 6; from++) {
            for (int door = 0; door < 6; door++) {
                CandleRooms x = new CandleRooms();
                x.strike(from);
                for (int room = 0; room < 6; room++) {
                    int up = Stores.steps(from, room);
                    Check.same("open", Math.min(up, 6 - up), x.carried(room));
                }
                x.door(door, false);
                for (int room = 0; room < 6; room++) {
                    int due = Math.min(wayUp(from, room, door), wayUp(room, from, door));
                    Check.same("from " + from + " to " + room + ", door " + door, due,
                        x.carried(room));
                }
            }
        }
    }

    /** The steps upwards from a room to another one, too many if the shut door is between. */
    private static int wayUp(int from, int to, int door) {
        int steps = Stores.steps(from, to);
        return Stores.steps(from, door) < steps ? 7 : steps;
    }

    /** "all of them with lengths above 0". */
    private static void promise22LengthsAboveZero() {
        CandleRooms x = Stores.burntDown(2);
        x.strike(0);
        int[] due = {0, 1, -1, 3, 2, 1};
        for (int room = 0; room < 6; room++) {
            Check.same("2 is burnt down, " + room, due[room], x.carried(room));
        }
        x.door(5, false);
        int[] shut = {0, 1, -1, -1, -1, -1};
        for (int room = 0; room < 6; room++) {
            Check.same("and the door 5 is shut, " + room, shut[room], x.carried(room));
        }
        CandleRooms y = Stores.stump(2);
        y.strike(0);
        y.door(5, false);
        Check.same("over one of the length 1", 3, y.carried(3));
    }

    /** "NONE without things". */
    private static void promise23NoneWithoutThings() {
        CandleRooms x = Stores.burntDown(0);
        Check.same("never one", CandleRooms.NONE, x.needy());
        x.keep(5, 1);
        Check.same("only rooms with things", 5, x.needy());
        x.pass(12);
        Check.same("forgotten", CandleRooms.NONE, x.needy());
    }

    /** "shortest, of several that with most things, of several of those the lowest". */
    private static void promise23ShortestMostLowest() {
        CandleRooms x = Stores.full();
        Check.same("the lowest of all", 0, x.needy());
        x.strike(5);
        x.pass(1);
        Check.same("the shortest", 5, x.needy());
        CandleRooms y = new CandleRooms();
        y.keep(1, 1);
        y.keep(3, 2);
        y.keep(3, 3);
        y.keep(5, 4);
        y.keep(5, 5);
        Check.same("most things, the lower one", 3, y.needy());
        y.keep(5, 6);
        Check.same("most things", 5, y.needy());
        y.strike(1);
        y.pass(60 - 49);
        Check.same("a burnt one, the fewest things", 1, y.needy());
        y.fresh(1);
        y.fresh(5);
        Check.same("shorter than new ones", 3, y.needy());
    }

    private static void promise24RoomInRange() {
        CandleRooms x = Stores.allLit();
        for (int room : NO_ROOMS) {
            Check.noRoom("saves(" + room + ")", x, () -> x.saves(room));
        }
        Check.same("saves(0)", 3, x.saves(0));
        Check.same("saves(5)", 3, x.saves(5));
    }

    /** "0 if it does not burn". */
    private static void promise24ZeroIfItDoesNotBurn() {
        CandleRooms x = new CandleRooms();
        x.fresh(0);
        Check.same("never struck", 0, x.saves(0));
        Check.same("burnt down", 0, Stores.burntDown(2).saves(2));
        CandleRooms y = Stores.allLit();
        y.fresh(2);
        Check.same("replaced", 0, y.saves(2));
        CandleRooms z = new CandleRooms();
        z.strike(0);
        z.pass(5);
        Check.same("burning", 1, z.saves(0));
        z.draught(0, 1);
        Check.same("with no draught", 1, z.saves(0));
        z.undo();
        z.undo();
        z.draught(0, 1);
        z.pass(1);
        Check.same("blown out", 0, z.saves(0));
    }

    /** "if its wick were always 0, less ... never trimmed from now on": counted out. */
    private static void promise24AlwaysLessNever() {
        for (int readings = 0; readings <= 19; readings++) {
            for (int beats = 0; beats <= 9; beats += 3) {
                CandleRooms x = Stores.trimmed(true, readings, beats);
                boolean burns = x.room(0, 1) == 1;
                int told = x.saves(0);
                int always = burns ? x.room(0, 0) : 0;
                int never = x.lasts(0);
                Check.same("behind " + readings + " and " + beats, always - never, told);
            }
        }
        Check.same("a new candle", 10, Stores.trimmed(true, 0, 0).saves(0));
        Check.same("with a wick of 9", 1, Stores.trimmed(true, 0, 9).saves(0));
        Check.same("in its last beat", 0, Stores.trimmed(false, 0, 6).saves(0));
        Check.same("the last length without a thick wick", 0, Stores.trimmed(false, 7, 0).saves(0));
        Check.same("one more", 1, Stores.trimmed(false, 6, 0).saves(0));
    }

    /** "1.0 without things". */
    private static void promise25OneWithoutThings() {
        CandleRooms x = new CandleRooms();
        Check.sameShare("never one", 1.0, x.lit());
        x.keep(0, 1);
        Check.sameShare("one in the dark", 0.0, x.lit());
        x.pass(12);
        Check.sameShare("forgotten", 1.0, x.lit());
    }

    /** "The things in lit rooms, as a double, divided by all": 0 to 24 of 24. */
    private static void promise25NoneToAll() {
        CandleRooms x = Stores.full();
        Check.sameShare("none", 0.0, x.lit());
        x.strike(0);
        Check.sameShare("4 of 24", 4.0 / 24.0, x.lit());
        for (int room = 1; room < 6; room++) {
            x.light(room, room - 1);
            Check.sameShare("more of 24", (room + 1) * 4.0 / 24.0, x.lit());
        }
        Check.sameShare("all", 1.0, x.lit());
    }

    /** Adds values to a hash as the document tells. */
    private static long mixed(long hash, long... values) {
        long mixed = hash;
        for (long value : values) {
            mixed = 31 * mixed + value;
        }
        return mixed;
    }

    /** "The hash starts at 3499", "with overflow": a new object, value by value. */
    private static void promise26StartsAndOverflows() {
        long hash = mixed(3499, 0, 12, 0, 0, 0, 0, 0, 0, -1, 0, 12, 0);
        for (int room = 0; room < 6; room++) {
            hash = mixed(hash, 10, 0, 0, 0, 0, 1, 0, -1, 0, 1, 0);
        }
        hash = mixed(hash, -1, -1, 0x3FF0000000000000L);
        CandleRooms x = new CandleRooms();
        Check.same("an empty buffer", mixed(hash, 0), x.digest());
        x.append(33);
        x.append(126);
        Check.same("two characters", mixed(hash, 2, 33, 126), x.digest());
    }

    /** Six full rooms and a full buffer; then a share of 0, and one of 1/6. */
    private static void promise26EmptyAndFull() {
        CandleRooms x = Stores.full();
        x.pass(2);
        x.strike(5);
        for (int place = 0; place < 60; place++) {
            x.append(33 + place);
        }
        long hash = mixed(3499, 2, 12, 1, 24, 0, 0, 0, 0, -1, 0, 12, 6);
        int[] carried = {1, 2, 3, 2, 1, 0};
        for (int room = 0; room < 6; room++) {
            int burns = room == 5 ? 1 : 0;
            hash = mixed(hash, 10, burns, 0, 0, 4, 1, 0, 4 * room);
            for (int key = 4 * room; key < 4 * room + 4; key++) {
                hash = mixed(hash, key, 2);
            }
            hash = mixed(hash, 7 * burns, carried[room], 3 * burns);
        }
        hash = mixed(hash, 10, 0, Double.doubleToLongBits(4.0 / 24.0), 60);
        for (int place = 0; place < 60; place++) {
            hash = mixed(hash, 33 + place);
        }
        Check.same("full", hash, x.digest());
        CandleRooms y = new CandleRooms();
        y.keep(0, 99);
        long dark = mixed(3499, 0, 12, 0, 1, 0, 0, 0, 0, -1, 0, 12, 1);
        dark = mixed(dark, 10, 0, 0, 0, 1, 1, 0, 99, 99, 0, 0, 1, 0);
        for (int room = 1; room < 6; room++) {
            dark = mixed(dark, 10, 0, 0, 0, 0, 1, 0, -1, 0, 1, 0);
        }
        Check.same("a share of 0", mixed(dark, 12, 0, 0, 0), y.digest());
    }

    /** "looks; nothing is changed", "what would be; nothing is changed". */
    private static void looksChangeNothing() {
        CandleRooms x = Stores.full();
        x.strike(3);
        x.light(4, 3);
        x.pass(2);
        x.draught(2, 2);
        Check.type(x, "0*,x");
        long before = x.digest();
        for (int room = 0; room < 6; room++) {
            for (int what = 0; what < 8; what++) {
                x.room(room, what);
            }
            x.lasts(room);
            x.carried(room);
            x.saves(room);
        }
        for (int what = 0; what < 12; what++) {
            x.count(what);
        }
        x.thing(5, 0);
        x.nextForgotten();
        x.needy();
        x.lit();
        x.firstError();
        Check.same("as before", before, x.digest());
        x.pass(1);
        Check.same("the draught blows as if nobody had looked", 1, x.count(7));
    }
}
