/** Promises 17 to 19: looks at rooms, things and numbers. */
public final class LooksTest {
    private static final int[] FAR = {-1, Integer.MIN_VALUE, Integer.MAX_VALUE};

    public static void main(String[] args) {
        promise17Room();
        promise17RoomRefused();
        promise18Thing();
        promise18ThingRefused();
        promise19Count();
        promise19CountRefused();
        Check.end("LooksTest");
    }

    /** A store in which nearly all numbers differ. */
    private static CandleRooms mixed() {
        CandleRooms x = new CandleRooms();
        Check.play(x, "0+30,0+31,0+32,1+40,3+7,3+8,5+0");
        x.fresh(1);
        x.fresh(2);
        x.strike(1);
        x.light(2, 1);
        x.light(0, 1);
        x.shield(2, true);
        x.door(4, false);
        x.pass(5);
        x.draught(0, 3);
        x.read(40);
        x.read(7);
        x.read(99);
        x.draught(4, 5);
        return x;
    }

    private static void promise17Room() {
        CandleRooms x = mixed();
        int[][] due = {
            {1, 0, 6, 0, 3, 1, 6, 30},
            {12, 0, 1, 0, 1, 1, 6, 40},
            {2, 1, 9, 1, 0, 1, 9, -1},
            {10, 0, 0, 0, 2, 1, 0, 7},
            {10, 0, 0, 0, 0, 0, 0, -1},
            {10, 0, 0, 0, 1, 1, 0, 0}};
        long before = x.digest();
        for (int room = 0; room < 6; room++) {
            for (int what = 0; what < 8; what++) {
                Check.same("room(" + room + ", " + what + ")", due[room][what], x.room(room, what));
            }
        }
        Check.same("looks change nothing", before, x.digest());
    }

    private static void promise17RoomRefused() {
        CandleRooms x = mixed();
        for (int far : FAR) {
            Check.noRoom("room " + far, x, () -> x.room(far, 0));
            Check.badArgument("number " + far, x, () -> x.room(0, far));
            Check.noRoom("both", x, () -> x.room(far, far));
        }
        Check.noRoom("room 6", x, () -> x.room(6, 0));
        Check.badArgument("number 8", x, () -> x.room(5, 8));
        Check.noRoom("room 6, number 8", x, () -> x.room(6, 8));
    }

    private static void promise18Thing() {
        CandleRooms x = mixed();
        int[] keys = {30, 31, 32, 40, 7, 8, 0};
        int[][] due = {{0, 4, 0}, {0, 4, 1}, {0, 4, 2}, {1, 4, 0}, {3, 9, 0}, {3, 9, 1}, {5, 9, 0}};
        long before = x.digest();
        for (int number = 0; number < keys.length; number++) {
            for (int what = 0; what < 3; what++) {
                Check.same("thing(" + keys[number] + ", " + what + ")", due[number][what],
                    x.thing(keys[number], what));
            }
        }
        for (int what = 0; what < 3; what++) {
            Check.same("no thing has the key", -1, x.thing(99, what));
            Check.same("no thing has the key", -1, x.thing(1, what));
        }
        Check.same("looks change nothing", before, x.digest());
    }

    private static void promise18ThingRefused() {
        CandleRooms x = mixed();
        for (int far : FAR) {
            Check.badArgument("key " + far, x, () -> x.thing(far, 0));
            Check.badArgument("number " + far, x, () -> x.thing(30, far));
        }
        Check.badArgument("key 100", x, () -> x.thing(100, 0));
        Check.badArgument("number 3", x, () -> x.thing(30, 3));
        Check.badArgument("number 3 of no thing", x, () -> x.thing(99, 3));
    }

    private static void promise19Count() {
        CandleRooms x = mixed();
        int[] due = {9, 10, 1, 7, 0, 2, 1, 2, 4, 5, 12, 6};
        long before = x.digest();
        for (int what = 0; what < 12; what++) {
            Check.same("count(" + what + ")", due[what], x.count(what));
        }
        Check.same("looks change nothing", before, x.digest());
        x.set(20);
        x.pass(11);
        int[] later = {20, 10, 0, 4, 3, 2, 1, 2, -1, 0, 20, 6};
        for (int what = 0; what < 12; what++) {
            Check.same("later count(" + what + ")", later[what], x.count(what));
        }
    }

    private static void promise19CountRefused() {
        CandleRooms x = mixed();
        for (int far : FAR) {
            Check.badArgument("count(" + far + ")", x, () -> x.count(far));
        }
        Check.badArgument("count(12)", x, () -> x.count(12));
    }
}
