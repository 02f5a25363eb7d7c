/** Terms, "A beat" and "The setting": each sentence that names a bound. */
public final class BeatSentencesTest {
    public static void main(String[] args) {
        shorterByTheWick();
        notBelowZero();
        atZeroItDoesNotBurn();
        wickGrowsIfItStillBurns();
        wickIsNineAtMost();
        onlyBurningCandlesBecomeShorter();
        draughtGoesAsFarAsItsStrength();
        draughtOfTheWholeRingBlowsOnce();
        draughtStopsAheadOfAShutDoor();
        draughtStopsBehindAShield();
        draughtMeetsShieldAndDoor();
        draughtBlowsAsThingsAreInTheBeat();
        onlyBurningCandlesAreBlownOut();
        burnsAheadOfTheDraught();
        draughtIsOver();
        darkNowIsOneBeatMore();
        litNowIsZero();
        forgottenAtTheSetting();
        forgottenAboveALoweredSetting();
        notForgottenBelowARaisedSetting();
        forgottenSeveralInABeat();
        settingAtFirst();
        settingIsOneToFifty();
        Check.end("BeatSentencesTest");
    }

    /** "and by 1 more, if its wick is 3 or more, and by 1 more, if it is 6 or more". */
    private static void shorterByTheWick() {
        int[] by = {1, 1, 1, 2, 2, 2, 3, 3, 3};
        for (int wick = 0; wick < 9; wick++) {
            CandleRooms x = Stores.trimmed(true, 0, wick);
            Check.same("the wick", wick, x.room(0, 2));
            int before = x.room(0, 0);
            x.pass(1);
            Check.same("shorter, wick " + wick, by[wick], before - x.room(0, 0));
        }
    }

    /** "but not below 0". */
    private static void notBelowZero() {
        CandleRooms x = Stores.trimmed(false, 0, 6);
        Check.same("1 is left, the wick is 6", 1, x.room(0, 0));
        x.pass(1);
        Check.same("1 less 3", 0, x.room(0, 0));
        CandleRooms y = Stores.trimmed(true, 0, 9);
        Check.same("2 are left, the wick is 9", 2, y.room(0, 0));
        y.pass(1);
        Check.same("2 less 3", 0, y.room(0, 0));
        CandleRooms z = Stores.trimmed(true, 17, 2);
        Check.same("1 is left, the wick is 3", 1, z.room(0, 0));
        z.pass(1);
        Check.same("1 less 2", 0, z.room(0, 0));
    }

    /** "At 0 it does not burn any more." */
    private static void atZeroItDoesNotBurn() {
        int[][] ways = {{19, 0, 1}, {16, 2, 2}, {9, 5, 3}};
        for (int[] way : ways) {
            CandleRooms x = Stores.trimmed(true, way[0], way[1]);
            Check.same("just as much is left", way[2], x.room(0, 0));
            Check.same("it burns", 1, x.room(0, 1));
            x.pass(1);
            Check.same("0", 0, x.room(0, 0));
            Check.same("it burns no more", 0, x.room(0, 1));
            CandleRooms y = Stores.trimmed(true, way[0] - 1, way[1]);
            y.pass(1);
            Check.same("1", 1, y.room(0, 0));
            Check.same("it burns on", 1, y.room(0, 1));
        }
    }

    /** "If it still burns, its wick becomes 1 more": ahead of the draught, too. */
    private static void wickGrowsIfItStillBurns() {
        CandleRooms x = new CandleRooms();
        x.strike(1);
        for (int wick = 1; wick <= 6; wick++) {
            x.pass(1);
            Check.same("wick", wick, x.room(1, 2));
        }
        x.pass(1);
        Check.same("burnt down", 6, x.room(1, 2));
        x.pass(5);
        Check.same("and on", 6, x.room(1, 2));
        CandleRooms y = new CandleRooms();
        y.strike(1);
        y.draught(1, 1);
        y.pass(1);
        Check.same("blown out behind it", 1, y.room(1, 2));
        y.pass(1);
        Check.same("dark, it grows no more", 1, y.room(1, 2));
        y.strike(1);
        Check.same("struck again, it is as it was", 1, y.room(1, 2));
    }

    /** "but at most 9". */
    private static void wickIsNineAtMost() {
        for (int readings = 0; readings <= 19; readings++) {
            CandleRooms x = Stores.trimmed(true, readings, 0);
            int wick = x.room(0, 2);
            while (x.room(0, 1) == 1) {
                x.pass(1);
                wick = Math.min(9, wick + x.room(0, 1));
                Check.same("wick behind " + readings + " readings", wick, x.room(0, 2));
            }
        }
    }

    /** "Each candle that burns". */
    private static void onlyBurningCandlesBecomeShorter() {
        CandleRooms x = new CandleRooms();
        x.pass(60);
        for (int room = 0; room < 6; room++) {
            Check.same("none burns, length", 10, x.room(room, 0));
            Check.same("none burns, wick", 0, x.room(room, 2));
            Check.same("none burns, beats", 0, x.room(room, 6));
        }
        x.strike(5);
        x.light(4, 5);
        x.pass(2);
        for (int room = 0; room < 6; room++) {
            Check.same("two burn, length", room > 3 ? 8 : 10, x.room(room, 0));
            Check.same("two burn, beats", room > 3 ? 2 : 0, x.room(room, 6));
        }
    }

    /** A draught in six burning candles blows out just so many, from its own room on. */
    private static void blows(String what, CandleRooms x, int room, int strength, int due) {
        Check.same(what + ", told", due, x.draught(room, strength));
        x.pass(1);
        Check.same(what + ", blown out", due, x.count(7));
        for (int other = 0; other < 6; other++) {
            boolean isOut = Stores.steps(room, other) < due;
            Check.same(what + ", room " + other, isOut ? 0 : 1, x.room(other, 1));
        }
    }

    /** "at most as far as its strength tells (strength 1: its room alone)". */
    private static void draughtGoesAsFarAsItsStrength() {
        for (int room = 0; room < 6; room++) {
            for (int strength = 1; strength <= 6; strength++) {
                String what = "from " + room + ", strength " + strength;
                blows(what, Stores.allLit(), room, strength, strength);
            }
        }
    }

    /** The strength 6 ends where it began: no candle counts twice. */
    private static void draughtOfTheWholeRingBlowsOnce() {
        CandleRooms x = new CandleRooms();
        x.strike(4);
        Check.same("one burns", 1, x.draught(4, 6));
        x.pass(1);
        Check.same("blown out once", 1, x.count(7));
    }

    /** "through open doors", "stops ahead of a shut door". */
    private static void draughtStopsAheadOfAShutDoor() {
        for (int room = 0; room < 6; room++) {
            for (int strength = 1; strength <= 6; strength++) {
                for (int door = 0; door < 6; door++) {
                    CandleRooms x = Stores.allLit();
                    x.door(door, false);
                    int due = Math.min(strength, Stores.steps(room, door) + 1);
                    String what = "from " + room + ", " + strength + ", door " + door;
                    blows(what, x, room, strength, due);
                }
            }
        }
    }

    /** "or behind a room with a shield (which is not blown out, and where it stops)". */
    private static void draughtStopsBehindAShield() {
        for (int room = 0; room < 6; room++) {
            for (int strength = 1; strength <= 6; strength++) {
                for (int shield = 0; shield < 6; shield++) {
                    CandleRooms x = Stores.allLit();
                    x.shield(shield, true);
                    int due = Math.min(strength, Stores.steps(room, shield));
                    String what = "from " + room + ", " + strength + ", shield " + shield;
                    blows(what, x, room, strength, due);
                }
            }
        }
    }

    private static void draughtMeetsShieldAndDoor() {
        CandleRooms x = Stores.allLit();
        x.shield(2, true);
        x.door(2, false);
        blows("both in the room 2", x, 0, 6, 2);
        CandleRooms y = Stores.allLit();
        y.shield(2, true);
        y.door(1, false);
        blows("the door ahead of the shield", y, 0, 6, 2);
        CandleRooms z = Stores.allLit();
        z.shield(5, true);
        z.door(0, false);
        blows("the shield and the door where it begins", z, 5, 6, 0);
        CandleRooms w = Stores.allLit();
        for (int room = 0; room < 6; room++) {
            w.shield(room, true);
            w.door(room, false);
        }
        blows("everywhere", w, 3, 6, 0);
    }

    /** It blows in the beat, through the doors that are open then. */
    private static void draughtBlowsAsThingsAreInTheBeat() {
        CandleRooms x = Stores.allLit();
        Check.same("as things are now", 6, x.draught(1, 6));
        x.door(2, false);
        x.fresh(1);
        Check.same("its room stays", 1, x.count(8));
        x.pass(1);
        Check.same("one of two was out already", 1, x.count(7));
        Check.same("behind the door", 1, x.room(3, 1));
        CandleRooms y = new CandleRooms();
        y.door(4, false);
        Check.same("none burns now", 0, y.draught(4, 2));
        y.door(4, true);
        y.strike(5);
        y.light(4, 5);
        y.pass(1);
        Check.same("two burn then", 2, y.count(7));
        CandleRooms z = Stores.allLit();
        z.draught(3, 2);
        z.shield(4, true);
        z.pass(1);
        Check.same("shielded in time", 1, z.count(7));
    }

    /** "Candles in its rooms that burn are blown out." */
    private static void onlyBurningCandlesAreBlownOut() {
        CandleRooms x = new CandleRooms();
        x.strike(2);
        x.light(3, 2);
        x.light(1, 2);
        x.fresh(2);
        Check.same("two of six burn", 2, x.draught(0, 6));
        x.pass(1);
        Check.same("two are blown out", 2, x.count(7));
        Check.same("none burns", 0, x.count(2));
        x.draught(0, 6);
        x.pass(1);
        Check.same("none is blown out again", 2, x.count(7));
        Check.same("the length stays", 9, x.room(1, 0));
    }

    /** "in this order": 1 is ahead of 2. */
    private static void burnsAheadOfTheDraught() {
        CandleRooms x = new CandleRooms();
        x.strike(0);
        x.pass(6);
        Check.same("in its last beat", 1, x.draught(0, 1));
        x.pass(1);
        Check.same("burnt down, not blown out", 0, x.count(7));
        Check.same("length", 0, x.room(0, 0));
        CandleRooms y = new CandleRooms();
        y.strike(0);
        y.draught(0, 1);
        y.pass(1);
        Check.same("shorter ahead of the draught", 9, y.room(0, 0));
        Check.same("burnt in that beat", 1, y.room(0, 6));
        y.pass(1);
        Check.same("not in the next one", 1, y.room(0, 6));
    }

    /** "Then it is over." */
    private static void draughtIsOver() {
        CandleRooms x = new CandleRooms();
        x.draught(0, 6);
        Check.same("it waits, room", 0, x.count(8));
        Check.same("it waits, strength", 6, x.count(9));
        x.pass(1);
        Check.same("over, though it found none", -1, x.count(8));
        Check.same("no strength", 0, x.count(9));
        x.strike(0);
        x.pass(1);
        Check.same("it burns on", 1, x.room(0, 1));
        CandleRooms y = Stores.allLit();
        y.draught(0, 1);
        y.pass(2);
        Check.same("one beat of two", 5, y.count(2));
        y.light(0, 1);
        y.pass(1);
        Check.same("lit again, it burns on", 6, y.count(2));
        Check.same("one was blown out", 1, y.count(7));
    }

    /** "Each thing in a room that is not lit now has been in the dark for 1 beat more". */
    private static void darkNowIsOneBeatMore() {
        CandleRooms x = Stores.trimmed(false, 0, 6);
        Check.same("lit", 0, x.thing(1, 1));
        x.pass(1);
        Check.same("burnt down in this beat", 1, x.thing(1, 1));
        CandleRooms y = Stores.trimmed(false, 0, 1);
        y.draught(0, 1);
        y.pass(1);
        Check.same("blown out in this beat", 1, y.thing(1, 1));
        y.pass(1);
        Check.same("dark", 2, y.thing(1, 1));
        CandleRooms z = Stores.full();
        z.strike(2);
        z.pass(1);
        for (int key = 0; key < 24; key++) {
            Check.same("key " + key, key / 4 == 2 ? 0 : 1, z.thing(key, 1));
        }
    }

    /** "in a lit room it is 0 then". */
    private static void litNowIsZero() {
        CandleRooms x = new CandleRooms();
        x.keep(0, 1);
        x.keep(0, 2);
        x.pass(3);
        x.keep(0, 3);
        x.strike(0);
        x.pass(1);
        for (int key = 1; key <= 3; key++) {
            Check.same("all of the room, key " + key, 0, x.thing(key, 1));
        }
        CandleRooms y = new CandleRooms();
        y.keep(0, 1);
        y.pass(10);
        y.set(1);
        y.strike(0);
        Check.same("0 is not the setting 1", 0, y.pass(1));
        Check.same("it is there", 0, y.thing(1, 1));
    }

    /** "in the dark for as many beats as the setting tells, is forgotten: it is gone". */
    private static void forgottenAtTheSetting() {
        for (int setting : new int[] {2, 3, 12, 49, 50}) {
            CandleRooms x = new CandleRooms();
            x.set(setting);
            x.keep(5, 99);
            Check.same("one beat less", 0, x.pass(setting - 1));
            Check.same("its beats", setting - 1, x.thing(99, 1));
            Check.same("that beat", 1, x.pass(1));
            Check.same("gone", -1, x.thing(99, 0));
            Check.same("forgotten so far", 1, x.count(4));
            Check.same("no things", 0, x.room(5, 4));
        }
        CandleRooms y = new CandleRooms();
        y.set(1);
        y.keep(0, 0);
        Check.same("the setting 1, one beat", 1, y.pass(1));
    }

    /** The setting may come below a thing's beats: it has been dark for as many, and more. */
    private static void forgottenAboveALoweredSetting() {
        for (int setting = 1; setting <= 10; setting++) {
            CandleRooms x = new CandleRooms();
            x.keep(0, 1);
            x.pass(9);
            x.set(setting);
            Check.same("nothing is forgotten without a beat", 9, x.thing(1, 1));
            Check.same("in the next one", 1, x.pass(1));
        }
    }

    private static void notForgottenBelowARaisedSetting() {
        CandleRooms x = new CandleRooms();
        x.keep(0, 1);
        x.pass(11);
        x.set(13);
        Check.same("the twelfth", 0, x.pass(1));
        Check.same("the thirteenth", 1, x.pass(1));
    }

    private static void forgottenSeveralInABeat() {
        CandleRooms x = Stores.full();
        x.strike(3);
        Check.same("all but four", 20, x.pass(12));
        Check.same("four are left", 4, x.count(3));
        Check.same("and they", 4, x.pass(60));
        Check.same("all", 24, x.count(4));
    }

    /** "at first 12". */
    private static void settingAtFirst() {
        CandleRooms x = new CandleRooms();
        Check.same("count", 12, x.count(10));
        x.keep(0, 1);
        Check.same("11 beats", 0, x.pass(11));
        Check.same("12 beats", 1, x.pass(1));
        Check.same("the previous one", 12, x.set(1));
    }

    /** "1 to 50". */
    private static void settingIsOneToFifty() {
        CandleRooms x = new CandleRooms();
        for (int setting : new int[] {0, -1, 51, Stores.LOWEST, Stores.HIGHEST}) {
            Check.badArgument("set(" + setting + ")", x, () -> x.set(setting));
        }
        Check.same("the lowest", 12, x.set(1));
        Check.same("the highest", 1, x.set(50));
        Check.same("it stands", 50, x.count(10));
    }
}
