/** Stores in the states from which the tests by sentence begin. */
final class Stores {
    static final int LOWEST = Integer.MIN_VALUE;
    static final int HIGHEST = Integer.MAX_VALUE;

    private Stores() {
    }

    /** Six burning candles of the length 10, with wicks of 0; 6 states are saved. */
    static CandleRooms allLit() {
        CandleRooms x = new CandleRooms();
        x.strike(0);
        for (int room = 1; room < 6; room++) {
            x.light(room, room - 1);
        }
        return x;
    }

    /** The candle of the room has burnt down in 7 beats, its wick is 6; 2 states are saved. */
    static CandleRooms burntDown(int room) {
        CandleRooms x = new CandleRooms();
        x.strike(room);
        x.pass(7);
        return x;
    }

    /** The candle of the room was blown out in beat 6, its length is 1, its wick 6; 4 are saved. */
    static CandleRooms stump(int room) {
        CandleRooms x = new CandleRooms();
        x.strike(room);
        x.pass(5);
        x.draught(room, 1);
        x.pass(1);
        return x;
    }

    /** 24 things with the keys 0 to 23, four in each room in the order of their keys. */
    static CandleRooms full() {
        CandleRooms x = new CandleRooms();
        for (int key = 0; key < 24; key++) {
            x.keep(key / 4, key);
        }
        return x;
    }

    /** A burning candle in the room 0 behind trimmed readings of its thing 1, and beats behind. */
    static CandleRooms trimmed(boolean isNew, int readings, int beats) {
        CandleRooms x = new CandleRooms();
        if (isNew) {
            x.fresh(0);
        }
        x.keep(0, 1);
        x.strike(0);
        for (int reading = 0; reading < readings; reading++) {
            x.read(1);
        }
        for (int beat = 0; beat < beats; beat++) {
            x.pass(1);
        }
        return x;
    }

    static int next(int room) {
        return room == 5 ? 0 : room + 1;
    }

    static int previous(int room) {
        return room == 0 ? 5 : room - 1;
    }

    /** How many steps upwards round the ring lead from a room to another one. */
    static int steps(int from, int to) {
        int steps = 0;
        for (int room = from; room != to; room = next(room)) {
            steps++;
        }
        return steps;
    }
}
