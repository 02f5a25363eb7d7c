/** Terms, "Rooms, doors, candles" and "Lighting, trimming": each sentence that names a bound. */
public final class RoomSentencesTest {
    public static void main(String[] args) {
        ringIsLitAcross();
        ringIsCarriedAcross();
        ringIsBlownAcross();
        doorsAreOpenAtFirst();
        lengthIsNeverBelowZero();
        candlesAtFirst();
        wickIsZeroToNine();
        fourThingsAtMost();
        fullRoomTakesAgain();
        placesInTheOrderOfComing();
        keysAreZeroToNinetyNine();
        darkIsZeroAtFirst();
        darkIsBrokenByALitBeat();
        darkIsNotBrokenByACandleThatGoesOutInTheBeat();
        noTwoThingsHaveOneKey();
        keyOfAForgottenThingIsFree();
        litIsABurningCandle();
        lengthZeroCannotBurn();
        boxHasTwelve();
        lightFromBesideThroughAnOpenDoor();
        anyCandleIsStruckIfNoneBurns();
        struckAgainWhenTheLastOneIsOut();
        lengthAboveZero();
        newCandle();
        readingInTheLightIsOneBeat();
        readingInTheDarkIsThreeBeats();
        beatsPassBehindWhatIsTold();
        readingTrimsAheadOfTheBeat();
        readingTrimsOnlyItsOwnBurningCandle();
        Check.end("RoomSentencesTest");
    }

    /** "behind the room 5 comes the room 0": the door 5 is between both. */
    private static void ringIsLitAcross() {
        CandleRooms x = new CandleRooms();
        x.strike(5);
        x.door(5, false);
        Check.badState("0 from 5, door 5 shut", x, () -> x.light(0, 5));
        x.door(5, true);
        for (int door = 0; door < 5; door++) {
            x.door(door, false);
        }
        Check.badState("4 from 5, door 4 shut", x, () -> x.light(4, 5));
        Check.same("0 from 5, door 5 open alone", 10, x.light(0, 5));
        CandleRooms y = new CandleRooms();
        y.strike(0);
        Check.badState("4 from 0", y, () -> y.light(4, 0));
        Check.same("5 from 0", 10, y.light(5, 0));
        Check.badState("1 from 5", y, () -> y.light(1, 5));
    }

    /** "behind the room 5 comes the room 0", for the way of light. */
    private static void ringIsCarriedAcross() {
        CandleRooms x = new CandleRooms();
        x.strike(5);
        int[] open = {1, 2, 3, 2, 1, 0};
        for (int room = 0; room < 6; room++) {
            Check.same("carried to " + room + " from 5", open[room], x.carried(room));
        }
        x.door(5, false);
        int[] shut = {5, 4, 3, 2, 1, 0};
        for (int room = 0; room < 6; room++) {
            Check.same("carried to " + room + ", door 5 shut", shut[room], x.carried(room));
        }
    }

    /** "behind the room 5 comes the room 0", for a draught. */
    private static void ringIsBlownAcross() {
        CandleRooms x = new CandleRooms();
        x.strike(5);
        x.light(0, 5);
        Check.same("from 5 to 5", 1, x.draught(5, 1));
        Check.same("from 5 to 0", 2, x.draught(5, 2));
        x.pass(1);
        Check.same("5 is out", 0, x.room(5, 1));
        Check.same("0 is out", 0, x.room(0, 1));
    }

    /** "doors are open or shut, open at first". */
    private static void doorsAreOpenAtFirst() {
        for (int door = 0; door < 6; door++) {
            CandleRooms x = new CandleRooms();
            Check.same("door at first", 1, x.room(door, 5));
            Check.same("it was open", 1, x.door(door, false));
            for (int other = 0; other < 6; other++) {
                Check.same("one is shut", other == door ? 0 : 1, x.room(other, 5));
            }
            x.door(door, true);
            Check.same("it is open again", 1, x.room(door, 5));
        }
    }

    /** "a length, 0 to 60": the last beat would take more than is left. */
    private static void lengthIsNeverBelowZero() {
        for (int room = 0; room < 6; room++) {
            CandleRooms x = Stores.burntDown(room);
            Check.same("1 less 3", 0, x.room(room, 0));
            x.pass(60);
            Check.same("it stays", 0, x.room(room, 0));
        }
    }

    /** "at first 10, that burns or not, at first not, and a thick wick, 0 to 9, at first 0". */
    private static void candlesAtFirst() {
        CandleRooms x = new CandleRooms();
        for (int room = 0; room < 6; room++) {
            Check.same("length at first", 10, x.room(room, 0));
            Check.same("burns at first", 0, x.room(room, 1));
            Check.same("wick at first", 0, x.room(room, 2));
            Check.same("shield at first", 0, x.room(room, 3));
            Check.same("things at first", 0, x.room(room, 4));
        }
    }

    /** "a thick wick, 0 to 9". */
    private static void wickIsZeroToNine() {
        CandleRooms x = Stores.trimmed(true, 0, 8);
        Check.same("wick behind 8 beats", 8, x.room(0, 2));
        x.pass(1);
        Check.same("wick behind 9 beats", 9, x.room(0, 2));
        x.pass(1);
        Check.same("wick behind 10 beats", 9, x.room(0, 2));
        CandleRooms y = Stores.trimmed(true, 2, 8);
        Check.same("1 is left, the wick is 9", 9, y.room(0, 2));
        Check.same("1 is left", 1, y.room(0, 0));
        Check.same("it burns", 1, y.room(0, 1));
    }

    /** "at most 4 things". */
    private static void fourThingsAtMost() {
        for (int room = 0; room < 6; room++) {
            int full = room;
            CandleRooms x = new CandleRooms();
            for (int things = 1; things <= 4; things++) {
                Check.same("things", things, x.keep(room, 10 + things));
            }
            Check.badState("a fifth thing", x, () -> x.keep(full, 20));
            Check.same("things in it", 4, x.room(room, 4));
            Check.same("another room is empty", 1, x.keep(Stores.next(room), 20));
        }
        CandleRooms y = Stores.full();
        Check.same("24 things at most", 24, y.count(3));
        for (int room = 0; room < 6; room++) {
            int full = room;
            Check.badState("a 25th thing", y, () -> y.keep(full, 99));
        }
    }

    /** "at most 4 things": one that is forgotten makes room for one. */
    private static void fullRoomTakesAgain() {
        CandleRooms x = new CandleRooms();
        x.keep(2, 1);
        x.pass(1);
        x.keep(2, 2);
        x.keep(2, 3);
        x.keep(2, 4);
        Check.badState("full", x, () -> x.keep(2, 5));
        Check.same("one is forgotten", 1, x.pass(11));
        Check.same("one more", 4, x.keep(2, 5));
        Check.badState("full again", x, () -> x.keep(2, 6));
    }

    /** "numbered from 0 in the order in which they came". */
    private static void placesInTheOrderOfComing() {
        CandleRooms x = new CandleRooms();
        int[] keys = {50, 99, 0, 7};
        for (int place = 0; place < 4; place++) {
            x.keep(3, keys[place]);
            x.keep(4, 20 + place);
            x.pass(1);
        }
        for (int place = 0; place < 4; place++) {
            Check.same("place", place, x.thing(keys[place], 2));
        }
        Check.same("the first one", 50, x.room(3, 7));
        Check.same("the first two of each are forgotten", 4, x.pass(9));
        Check.same("place 0 now", 0, x.thing(0, 2));
        Check.same("place 1 now", 1, x.thing(7, 2));
        Check.same("the first one now", 0, x.room(3, 7));
        x.keep(3, 50);
        Check.same("it comes last now", 2, x.thing(50, 2));
    }

    /** "each a key, 0 to 99". */
    private static void keysAreZeroToNinetyNine() {
        CandleRooms x = new CandleRooms();
        for (int key : new int[] {-1, 100, Stores.LOWEST, Stores.HIGHEST}) {
            Check.badArgument("key " + key, x, () -> x.keep(0, key));
        }
        Check.same("key 0", 1, x.keep(0, 0));
        Check.same("key 99", 2, x.keep(0, 99));
        Check.same("the lowest key comes first", 0, x.room(0, 7));
        Check.same("the highest key", 1, x.thing(99, 2));
    }

    /** "how many beats it has been in the dark without a break, at first 0". */
    private static void darkIsZeroAtFirst() {
        CandleRooms x = new CandleRooms();
        x.pass(5);
        x.keep(0, 1);
        Check.same("a new thing in an old dark room", 0, x.thing(1, 1));
        x.pass(1);
        x.keep(0, 2);
        Check.same("a new thing beside another one", 0, x.thing(2, 1));
        Check.same("the other one", 1, x.thing(1, 1));
        x.pass(11);
        x.keep(0, 3);
        Check.same("a new thing in the place of a forgotten one", 0, x.thing(3, 1));
    }

    /** "without a break". */
    private static void darkIsBrokenByALitBeat() {
        CandleRooms x = new CandleRooms();
        x.keep(0, 1);
        x.pass(11);
        Check.same("11 in the dark", 11, x.thing(1, 1));
        x.strike(0);
        Check.same("light alone breaks nothing", 11, x.thing(1, 1));
        Check.same("a lit beat instead of the twelfth", 0, x.pass(1));
        Check.same("it is 0 then", 0, x.thing(1, 1));
        x.draught(0, 1);
        x.pass(1);
        Check.same("it begins anew", 1, x.thing(1, 1));
        Check.same("11 again", 0, x.pass(10));
        Check.same("the twelfth", 1, x.pass(1));
    }

    /** "without a break": no beat has ended in the light. */
    private static void darkIsNotBrokenByACandleThatGoesOutInTheBeat() {
        CandleRooms x = new CandleRooms();
        x.keep(0, 1);
        x.pass(11);
        x.strike(0);
        x.draught(0, 1);
        Check.same("blown out in the twelfth", 1, x.pass(1));
        CandleRooms y = Stores.stump(0);
        y.keep(0, 1);
        y.pass(11);
        Check.same("the last bit", 1, y.strike(0));
        Check.same("burnt down in the twelfth", 1, y.pass(1));
    }

    /** "No two things anywhere have the same key." */
    private static void noTwoThingsHaveOneKey() {
        for (int room = 0; room < 6; room++) {
            CandleRooms x = new CandleRooms();
            x.keep(room, 0);
            x.keep(room, 99);
            for (int other = 0; other < 6; other++) {
                int second = other;
                Check.badState("0 in " + room + " and " + other, x, () -> x.keep(second, 0));
                Check.badState("99 in " + room + " and " + other, x, () -> x.keep(second, 99));
            }
        }
    }

    private static void keyOfAForgottenThingIsFree() {
        CandleRooms x = new CandleRooms();
        x.keep(1, 8);
        x.pass(11);
        Check.badState("not yet", x, () -> x.keep(4, 8));
        x.pass(1);
        Check.same("free", 1, x.keep(4, 8));
        x.undo();
        Check.same("free again by undo", 1, x.keep(5, 8));
        Check.same("its room", 5, x.thing(8, 0));
    }

    /** "A room is lit, if its candle burns." */
    private static void litIsABurningCandle() {
        CandleRooms x = new CandleRooms();
        x.keep(0, 1);
        Check.sameShare("a candle that does not burn", 0.0, x.lit());
        x.strike(1);
        Check.sameShare("one that burns beside it", 0.0, x.lit());
        x.light(0, 1);
        Check.sameShare("its own", 1.0, x.lit());
        x.fresh(0);
        Check.sameShare("a new one", 0.0, x.lit());
    }

    /** "A candle of the length 0 cannot burn." */
    private static void lengthZeroCannotBurn() {
        for (int room = 0; room < 6; room++) {
            int burnt = room;
            CandleRooms x = Stores.burntDown(room);
            Check.same("burnt down", 0, x.room(room, 1));
            Check.badState("struck", x, () -> x.strike(burnt));
            Check.same("carried, none burns", -1, x.carried(room));
            Check.same("as a deed", 0, Check.play(x, room + "*"));
            x.strike(Stores.next(room));
            Check.badState("lit", x, () -> x.light(burnt, Stores.next(burnt)));
            Check.same("carried, one burns", -1, x.carried(room));
            Check.same("as a deed", 0, Check.play(x, room + ">"));
            x.fresh(room);
            Check.same("a new one can", 20, x.light(room, Stores.next(room)));
        }
    }

    /** "There is a box with 12 new candles, at first." */
    private static void boxHasTwelve() {
        CandleRooms x = new CandleRooms();
        Check.same("at first", 12, x.count(1));
        for (int taken = 1; taken <= 12; taken++) {
            Check.same("left", 12 - taken, x.fresh(taken % 6));
        }
        for (int room = 0; room < 6; room++) {
            int empty = room;
            Check.badState("the thirteenth", x, () -> x.fresh(empty));
        }
        x.undo();
        Check.same("one is back", 1, x.count(1));
        Check.same("the twelfth again", 0, x.fresh(3));
    }

    /** "from one that burns in a room beside it, through an open door": all doors, all rooms. */
    private static void lightFromBesideThroughAnOpenDoor() {
        for (int doors = 0; doors < 64; doors++) {
            for (int from = 0; from < 6; from++) {
                CandleRooms x = new CandleRooms();
                x.strike(from);
                for (int door = 0; door < 6; door++) {
                    x.door(door, (doors >> door & 1) == 1);
                }
                for (int room = 0; room < 6; room++) {
                    boolean up = room == Stores.next(from) && (doors >> from & 1) == 1;
                    boolean down = room == Stores.previous(from) && (doors >> room & 1) == 1;
                    tryLight(x, room, from, up || down);
                }
            }
        }
    }

    private static void tryLight(CandleRooms x, int room, int from, boolean may) {
        String told = room + " from " + from;
        if (may) {
            Check.same(told, 10, x.light(room, from));
            x.undo();
        } else {
            Check.badState(told, x, () -> x.light(room, from));
        }
    }

    /** "If no candle burns anywhere, any candle can be struck." */
    private static void anyCandleIsStruckIfNoneBurns() {
        for (int room = 0; room < 6; room++) {
            CandleRooms x = new CandleRooms();
            Check.same("none burns", 10, x.strike(room));
            for (int other = 0; other < 6; other++) {
                int second = other;
                Check.badState(room + " burns", x, () -> x.strike(second));
            }
        }
    }

    /** "If no candle burns anywhere": burnt down, blown out, replaced. */
    private static void struckAgainWhenTheLastOneIsOut() {
        CandleRooms x = new CandleRooms();
        x.strike(0);
        x.light(1, 0);
        x.fresh(0);
        Check.badState("one burns still", x, () -> x.strike(0));
        x.pass(6);
        Check.badState("in its last beat", x, () -> x.strike(0));
        x.pass(1);
        Check.same("burnt down", 20, x.strike(0));
        x.draught(0, 1);
        Check.badState("not blown out yet", x, () -> x.strike(2));
        x.pass(1);
        Check.same("blown out", 10, x.strike(2));
        x.fresh(2);
        Check.same("replaced", 20, x.strike(2));
    }

    /** "It must have a length above 0." */
    private static void lengthAboveZero() {
        CandleRooms x = Stores.stump(4);
        Check.same("1 is above 0, struck", 1, x.strike(4));
        CandleRooms y = Stores.stump(4);
        y.strike(5);
        Check.same("carried to it", 1, y.carried(4));
        Check.same("1 is above 0, lit", 1, y.light(4, 5));
        y.pass(1);
        Check.same("0 now", 0, y.room(4, 0));
        Check.badState("0 is not, lit", y, () -> y.light(4, 5));
        x.pass(1);
        Check.badState("0 is not, struck", x, () -> x.strike(4));
    }

    /** "A new candle from the box has the length 20, and a wick of 0; it does not burn." */
    private static void newCandle() {
        CandleRooms[] stores = {new CandleRooms(), Stores.burntDown(3), Stores.stump(3),
            Stores.allLit()};
        stores[3].pass(3);
        int[] burnt = {0, 7, 6, 3};
        for (int store = 0; store < stores.length; store++) {
            CandleRooms x = stores[store];
            Check.same("in place of " + store, 11, x.fresh(3));
            Check.same("length", 20, x.room(3, 0));
            Check.same("burns", 0, x.room(3, 1));
            Check.same("wick", 0, x.room(3, 2));
            Check.same("burnt so far, all together", burnt[store], x.room(3, 6));
        }
    }

    /** "if its room is lit, it takes 1 beat". */
    private static void readingInTheLightIsOneBeat() {
        CandleRooms x = Stores.trimmed(false, 9, 0);
        Check.same("9 readings", 9, x.count(0));
        Check.same("length", 1, x.room(0, 0));
        Check.same("the last beat of the candle", 0, x.read(1));
        Check.same("one beat, though it is dark behind it", 10, x.count(0));
        Check.same("none in the dark", 0, x.count(6));
        Check.same("dark now", 1, x.thing(1, 1));
        CandleRooms y = Stores.trimmed(false, 0, 0);
        y.draught(0, 1);
        y.read(1);
        Check.same("one beat, though it is blown out in it", 1, y.count(0));
    }

    /** "otherwise 3 beats". */
    private static void readingInTheDarkIsThreeBeats() {
        CandleRooms x = new CandleRooms();
        x.keep(0, 1);
        x.strike(1);
        Check.same("lit beside it", 0, x.read(1));
        Check.same("three beats", 3, x.count(0));
        Check.same("in the dark", 1, x.count(6));
        Check.same("the other candle burns in them", 7, x.room(1, 0));
        Check.same("its wick", 3, x.room(1, 2));
        CandleRooms y = new CandleRooms();
        y.keep(0, 1);
        y.strike(0);
        y.light(1, 0);
        y.fresh(0);
        y.draught(1, 1);
        y.read(1);
        Check.same("a draught blows in the first one", 1, y.room(1, 6));
        Check.same("once", 1, y.count(7));
        Check.same("three beats", 3, y.count(0));
    }

    /** "they pass behind what is told": a thing may be forgotten by being read. */
    private static void beatsPassBehindWhatIsTold() {
        for (int beats = 1; beats <= 11; beats++) {
            CandleRooms x = new CandleRooms();
            x.keep(3, 1);
            x.pass(beats);
            Check.same("its room", 3, x.read(1));
            Check.same("all three beats pass", beats + 3, x.count(0));
            Check.same("forgotten by it", beats >= 9 ? 1 : 0, x.count(4));
            Check.same("its beats", beats >= 9 ? -1 : beats + 3, x.thing(1, 1));
            Check.same("it is a reading", 1, x.count(5));
        }
        CandleRooms y = Stores.trimmed(false, 9, 0);
        y.set(1);
        Check.same("forgotten in the last lit beat", 0, y.read(1));
        Check.same("it is gone", -1, y.thing(1, 0));
        Check.same("it was read in the light", 0, y.count(6));
    }

    /** "the wick of the candle is trimmed ahead of these beats ...: it becomes 0". */
    private static void readingTrimsAheadOfTheBeat() {
        int[] lengths = {10, 9, 8, 7, 5, 3, 1};
        for (int beats = 0; beats < 6; beats++) {
            CandleRooms x = Stores.trimmed(false, 0, beats);
            x.read(1);
            Check.same("by 1 from the wick " + beats, lengths[beats] - 1, x.room(0, 0));
            Check.same("wick behind the beat", 1, x.room(0, 2));
        }
        CandleRooms y = Stores.trimmed(false, 0, 6);
        y.read(1);
        Check.same("by 1 to 0", 0, y.room(0, 0));
        Check.same("trimmed, and burnt down", 0, y.room(0, 2));
        CandleRooms z = Stores.trimmed(true, 0, 9);
        z.read(1);
        Check.same("by 1 from the wick 9", 1, z.room(0, 0));
        Check.same("wick behind the beat", 1, z.room(0, 2));
    }

    /** "if it burns". */
    private static void readingTrimsOnlyItsOwnBurningCandle() {
        CandleRooms x = Stores.stump(2);
        x.keep(2, 1);
        x.read(1);
        Check.same("blown out, not trimmed", 6, x.room(2, 2));
        Check.same("nor shorter", 1, x.room(2, 0));
        CandleRooms y = Stores.burntDown(2);
        y.keep(2, 1);
        y.read(1);
        Check.same("burnt down, not trimmed", 6, y.room(2, 2));
        CandleRooms z = Stores.allLit();
        z.keep(2, 1);
        z.pass(3);
        z.read(1);
        for (int room = 0; room < 6; room++) {
            Check.same("trimmed is the room 2 alone", room == 2 ? 1 : 4, z.room(room, 2));
            Check.same("lengths", room == 2 ? 6 : 5, z.room(room, 0));
        }
        z.read(99);
        Check.same("no thing, not trimmed", 1, z.room(2, 2));
    }
}
