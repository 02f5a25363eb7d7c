/** Promises 1 to 8: a new object, candles, doors, shields, draughts, the setting. */
public final class CandlesTest {
    private static final int[] NO_ROOMS = {-1, 6, Integer.MIN_VALUE, Integer.MAX_VALUE};

    public static void main(String[] args) {
        promise01NewObject();
        promise02Strike();
        promise03Light();
        promise03LightThroughEachDoor();
        promise04Fresh();
        promise05Door();
        promise06Shield();
        promise07Draught();
        promise07DraughtStops();
        promise07DraughtBlows();
        promise08Set();
        beatBurns();
        Check.end("CandlesTest");
    }

    private static void promise01NewObject() {
        CandleRooms x = new CandleRooms();
        int[] rooms = {10, 0, 0, 0, 0, 1, 0, -1};
        for (int room = 0; room < 6; room++) {
            for (int what = 0; what < 8; what++) {
                Check.same("new room(" + room + ", " + what + ")", rooms[what], x.room(room, what));
            }
        }
        int[] counts = {0, 12, 0, 0, 0, 0, 0, 0, -1, 0, 12, 0};
        for (int what = 0; what < 12; what++) {
            Check.same("new count(" + what + ")", counts[what], x.count(what));
        }
        for (int key = 0; key < 100; key++) {
            Check.same("new thing(" + key + ")", -1, x.thing(key, 0));
        }
        Check.same("new buffer", 0, x.clearBuffer());
        Check.same("two objects are apart", new CandleRooms().strike(3), x.strike(2));
        Check.same("NONE", -1, CandleRooms.NONE);
    }

    private static void promise02Strike() {
        for (int room = 0; room < 6; room++) {
            CandleRooms x = new CandleRooms();
            Check.same("strike", 10, x.strike(room));
            Check.same("struck candle burns", 1, x.room(room, 1));
            Check.same("only one burns", 1, x.count(2));
            Check.same("strike saves", 1, x.count(11));
            Check.badState("strike while it burns", x, () -> x.strike(0));
            Check.badState("strike while another burns", x, () -> x.strike(5));
        }
        CandleRooms x = new CandleRooms();
        for (int room : NO_ROOMS) {
            Check.noRoom("strike(" + room + ")", x, () -> x.strike(room));
        }
        x.strike(1);
        Check.noRoom("strike, both exceptions", x, () -> x.strike(6));
        x.pass(7);
        Check.badState("strike a burnt candle", x, () -> x.strike(1));
        Check.same("strike when none burns any more", 10, x.strike(0));
        x.fresh(0);
        Check.same("strike a new candle", 20, x.strike(0));
        x.pass(1);
        x.draught(0, 1);
        x.pass(1);
        Check.same("strike a candle that was blown out", 18, x.strike(0));
        Check.same("striking trims nothing", 2, x.room(0, 2));
    }

    private static void promise03Light() {
        CandleRooms x = new CandleRooms();
        for (int room : NO_ROOMS) {
            Check.noRoom("light(" + room + ", 0)", x, () -> x.light(room, 0));
            Check.noRoom("light(0, " + room + ")", x, () -> x.light(0, room));
        }
        Check.badState("light from a dark one", x, () -> x.light(0, 1));
        x.strike(2);
        Check.badState("light itself", x, () -> x.light(2, 2));
        Check.badState("light two rooms on", x, () -> x.light(4, 2));
        Check.badState("light two rooms back", x, () -> x.light(0, 2));
        Check.badState("light across", x, () -> x.light(5, 2));
        Check.badState("light a burning one", x, () -> x.light(2, 3));
        x.fresh(3);
        int saved = x.count(11);
        Check.same("light", 20, x.light(3, 2));
        Check.same("light saves", saved + 1, x.count(11));
        Check.same("it burns", 1, x.room(3, 1));
        Check.same("the other one burns still", 1, x.room(2, 1));
        Check.badState("light it again", x, () -> x.light(3, 2));
        x.pass(7);
        Check.badState("light a burnt one", x, () -> x.light(2, 3));
        Check.same("light with the length that is left", 10, x.light(4, 3));
        CandleRooms y = new CandleRooms();
        y.strike(0);
        y.pass(5);
        y.draught(0, 1);
        y.pass(1);
        y.strike(1);
        Check.same("light the last bit of a candle", 1, y.light(0, 1));
    }

    private static void promise03LightThroughEachDoor() {
        for (int door = 0; door < 6; door++) {
            int next = (door + 1) % 6;
            int low = door;
            CandleRooms x = new CandleRooms();
            x.strike(low);
            x.door(door, false);
            Check.badState("light up through a shut door", x, () -> x.light(next, low));
            Check.same("light down by the other door", 10, x.light((low + 5) % 6, low));
            x.door(door, true);
            Check.same("light up", 10, x.light(next, low));
            CandleRooms y = new CandleRooms();
            y.strike(next);
            y.door(door, false);
            Check.badState("light down through a shut door", y, () -> y.light(low, next));
            Check.same("light up by the other door", 10, y.light((next + 1) % 6, next));
            y.door(door, true);
            Check.same("light down", 10, y.light(low, next));
        }
    }

    private static void promise04Fresh() {
        CandleRooms x = new CandleRooms();
        for (int room : NO_ROOMS) {
            Check.noRoom("fresh(" + room + ")", x, () -> x.fresh(room));
        }
        x.strike(3);
        x.pass(4);
        Check.same("fresh", 11, x.fresh(3));
        Check.same("a new candle's length", 20, x.room(3, 0));
        Check.same("a new candle burns not", 0, x.room(3, 1));
        Check.same("a new candle's wick", 0, x.room(3, 2));
        Check.same("the beats of all its candles", 4, x.room(3, 6));
        Check.same("fresh saves", 3, x.count(11));
        for (int left = 10; left >= 0; left--) {
            Check.same("fresh, left", left, x.fresh(left % 6));
            Check.same("in the box", left, x.count(1));
        }
        Check.badState("fresh from the empty box", x, () -> x.fresh(0));
        Check.noRoom("fresh, both exceptions", x, () -> x.fresh(-1));
    }

    private static void promise05Door() {
        CandleRooms x = new CandleRooms();
        for (int door : NO_ROOMS) {
            Check.noRoom("door(" + door + ")", x, () -> x.door(door, true));
        }
        for (int door = 0; door < 6; door++) {
            Check.same("door was open at first", 1, x.door(door, false));
            Check.same("door is shut", 0, x.room(door, 5));
            Check.same("the next one is as it was", door == 5 ? 0 : 1, x.room((door + 1) % 6, 5));
            Check.same("door was shut", 0, x.door(door, false));
        }
        Check.same("door was shut still", 0, x.door(4, true));
        Check.same("door is open", 1, x.room(4, 5));
        Check.same("door was open", 1, x.door(4, true));
        CandleRooms y = new CandleRooms();
        y.door(0, true);
        Check.same("door saves, also if it changes nothing", 1, y.count(11));
    }

    private static void promise06Shield() {
        CandleRooms x = new CandleRooms();
        for (int room : NO_ROOMS) {
            Check.noRoom("shield(" + room + ")", x, () -> x.shield(room, true));
        }
        for (int room = 0; room < 6; room++) {
            Check.same("no shield at first", 0, x.shield(room, true));
            Check.same("it has one", 1, x.room(room, 3));
            Check.same("it had one", 1, x.shield(room, true));
        }
        Check.same("it had one", 1, x.shield(5, false));
        Check.same("it has none", 0, x.room(5, 3));
        Check.same("it had none", 0, x.shield(5, false));
        Check.same("room 4 has one still", 1, x.room(4, 3));
        CandleRooms y = new CandleRooms();
        y.shield(0, false);
        Check.same("shield saves, also if it changes nothing", 1, y.count(11));
    }

    /** All six candles burn: struck in the room 0, and lit on from there. */
    private static CandleRooms allLit() {
        CandleRooms x = new CandleRooms();
        Check.same("deeds that light all", 6, Check.play(x, "0*,1<,2<,3<,4<,5<"));
        return x;
    }

    private static void promise07Draught() {
        CandleRooms x = allLit();
        for (int room : NO_ROOMS) {
            Check.noRoom("draught(" + room + ")", x, () -> x.draught(room, 1));
            Check.noRoom("draught, both exceptions", x, () -> x.draught(room, 0));
        }
        for (int strength : new int[] {0, -1, 7, Integer.MAX_VALUE, Integer.MIN_VALUE}) {
            Check.badArgument("strength " + strength, x, () -> x.draught(0, strength));
        }
        for (int room = 0; room < 6; room++) {
            for (int strength = 1; strength <= 6; strength++) {
                Check.same("draught in open doors", strength, x.draught(room, strength));
                Check.same("its room", room, x.count(8));
                Check.same("its strength", strength, x.count(9));
            }
        }
        Check.same("none is blown out before the beat", 6, x.count(2));
        CandleRooms y = new CandleRooms();
        Check.same("draught without candles", 0, y.draught(3, 6));
        Check.same("draught saves", 1, y.count(11));
        y.strike(1);
        Check.same("in place of one that has not blown", 1, y.draught(5, 3));
        Check.same("the room is the new one", 5, y.count(8));
        Check.same("one room too short", 0, y.draught(5, 2));
    }

    private static void promise07DraughtStops() {
        CandleRooms x = allLit();
        x.door(1, false);
        Check.same("ahead of a shut door", 2, x.draught(0, 6));
        Check.same("a shut door behind the first room", 1, x.draught(1, 6));
        Check.same("it does not reach the door", 1, x.draught(0, 1));
        Check.same("the door behind it", 6, x.draught(2, 6));
        x.door(1, true);
        x.shield(4, true);
        Check.same("a shield", 2, x.draught(2, 6));
        Check.same("a shield in the first room", 0, x.draught(4, 6));
        Check.same("behind the shield", 5, x.draught(5, 6));
        x.shield(4, false);
        Check.same("without the shield", 6, x.draught(2, 6));
    }

    private static void promise07DraughtBlows() {
        CandleRooms x = allLit();
        x.shield(1, true);
        x.draught(4, 6);
        x.pass(1);
        int[] burns = {0, 1, 1, 1, 0, 0};
        for (int room = 0; room < 6; room++) {
            Check.same("behind the draught, room " + room, burns[room], x.room(room, 1));
            Check.same("it burnt in the beat", 9, x.room(room, 0));
            Check.same("its wick", 1, x.room(room, 2));
            Check.same("its beat counts", 1, x.room(room, 6));
        }
        Check.same("blown out", 3, x.count(7));
        Check.same("it is over", -1, x.count(8));
        Check.same("its strength then", 0, x.count(9));
        x.pass(1);
        Check.same("it blows once", 3, x.count(2));
        CandleRooms y = allLit();
        y.pass(6);
        Check.same("draught at the last beat", 6, y.draught(0, 6));
        y.pass(1);
        Check.same("burnt down, not blown out", 0, y.count(7));
        CandleRooms z = allLit();
        z.draught(0, 6);
        z.door(0, false);
        z.pass(2);
        Check.same("doors as they are when it blows", 1, z.count(7));
    }

    private static void promise08Set() {
        CandleRooms x = new CandleRooms();
        for (int beats : new int[] {0, -1, 51, Integer.MAX_VALUE, Integer.MIN_VALUE}) {
            Check.badArgument("set(" + beats + ")", x, () -> x.set(beats));
        }
        Check.same("set, the first one", 12, x.set(50));
        Check.same("set, the one before", 50, x.set(1));
        Check.same("set, the lowest", 1, x.set(1));
        Check.same("the setting", 1, x.count(10));
        Check.same("set saves, also if it changes nothing", 3, x.count(11));
        for (int beats = 1; beats <= 50; beats++) {
            CandleRooms y = new CandleRooms();
            y.keep(0, 5);
            y.set(beats);
            Check.same("not before the setting", 0, beats > 1 ? y.pass(beats - 1) : 0);
            Check.same("at the setting", 1, y.pass(1));
        }
        CandleRooms z = new CandleRooms();
        z.keep(0, 5);
        z.pass(9);
        z.set(3);
        Check.same("a lower setting forgets nothing by itself", 9, z.thing(5, 1));
        Check.same("but in the next beat", 1, z.pass(1));
    }

    private static void beatBurns() {
        CandleRooms x = new CandleRooms();
        x.fresh(2);
        x.strike(2);
        int[] lengths = {19, 18, 17, 15, 13, 11, 8, 5, 2, 0};
        int[] wicks = {1, 2, 3, 4, 5, 6, 7, 8, 9, 9};
        for (int beat = 0; beat < 10; beat++) {
            x.pass(1);
            Check.same("length behind beat " + beat, lengths[beat], x.room(2, 0));
            Check.same("wick behind beat " + beat, wicks[beat], x.room(2, 2));
            Check.same("burning behind beat " + beat, beat < 9 ? 1 : 0, x.room(2, 1));
            Check.same("burnt behind beat " + beat, beat + 1, x.room(2, 6));
        }
        x.pass(3);
        Check.same("a candle that does not burn counts no beats", 10, x.room(2, 6));
        Check.same("beats so far", 13, x.count(0));
        Check.same("the others keep their length", 10, x.room(1, 0));
        CandleRooms y = new CandleRooms();
        y.fresh(0);
        y.strike(0);
        y.keep(0, 1);
        // A long life by trimming, then the wick at its thickest.
        for (int time = 0; time < 3; time++) {
            y.read(1);
        }
        y.pass(5);
        int[] later = {9, 6, 3, 0};
        for (int beat = 0; beat < 4; beat++) {
            Check.same("behind trimming, " + beat, later[beat], y.room(0, 0));
            y.pass(1);
        }
    }
}
