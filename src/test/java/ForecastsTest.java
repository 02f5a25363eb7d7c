/** Promises 20 to 26: what would be, and the digest. */
public final class ForecastsTest {
    private static final int[] NO_ROOMS = {-1, 6, Integer.MIN_VALUE, Integer.MAX_VALUE};

    public static void main(String[] args) {
        promise20Lasts();
        promise20LastsInADraught();
        promise21NextForgotten();
        promise21NextForgottenInTheLight();
        promise21NextForgottenByRestsOfCandles();
        promise22Carried();
        promise22CarriedBothWays();
        promise22CarriedByBurntCandles();
        promise23Needy();
        promise24Saves();
        promise25Lit();
        promise26Digest();
        Check.end("ForecastsTest");
    }

    private static void promise20Lasts() {
        CandleRooms x = new CandleRooms();
        for (int room : NO_ROOMS) {
            Check.noRoom("lasts(" + room + ")", x, () -> x.lasts(room));
        }
        Check.same("a candle that does not burn", 0, x.lasts(0));
        x.strike(0);
        for (int left = 7; left > 0; left--) {
            Check.same("lasts", left, x.lasts(0));
            x.pass(1);
        }
        Check.same("it is over", 0, x.lasts(0));
        x.fresh(0);
        x.strike(0);
        Check.same("a new candle", 10, x.lasts(0));
        x.keep(0, 3);
        x.pass(5);
        Check.same("its wick is thick", 5, x.lasts(0));
        x.read(3);
        Check.same("trimmed it lasts", 7, x.lasts(0));
        Check.same("another room", 0, x.lasts(1));
        CandleRooms y = new CandleRooms();
        y.strike(0);
        y.keep(0, 3);
        y.read(3);
        y.read(3);
        Check.same("to the length 0 and not below", 5, y.lasts(0));
        Check.same("and what it saves", 3, y.saves(0));
    }

    private static void promise20LastsInADraught() {
        CandleRooms x = new CandleRooms();
        Check.play(x, "0*,1<,2<,3<,4<,5<");
        x.draught(4, 3);
        int[] due = {1, 7, 7, 7, 1, 1};
        for (int room = 0; room < 6; room++) {
            Check.same("the draught blows next", due[room], x.lasts(room));
        }
        x.shield(5, true);
        Check.same("a shield keeps it", 7, x.lasts(5));
        Check.same("and those behind it", 7, x.lasts(0));
        x.shield(5, false);
        x.door(4, false);
        Check.same("a shut door keeps it", 7, x.lasts(5));
        Check.same("but not the first room", 1, x.lasts(4));
        x.pass(1);
        Check.same("out", 0, x.lasts(4));
        Check.same("lit", 6, x.lasts(5));
    }

    private static void promise21NextForgotten() {
        CandleRooms x = new CandleRooms();
        Check.same("without things", -1, x.nextForgotten());
        x.keep(3, 1);
        Check.same("a new thing in the dark", 12, x.nextForgotten());
        x.pass(4);
        x.keep(2, 2);
        Check.same("the older one", 8, x.nextForgotten());
        x.set(4);
        Check.same("due already", 1, x.nextForgotten());
        x.set(3);
        Check.same("overdue", 1, x.nextForgotten());
        x.set(50);
        Check.same("the highest setting", 46, x.nextForgotten());
        Check.same("in the last one of these", 0, x.pass(45));
        Check.same("one is left", 1, x.nextForgotten());
        Check.same("now", 1, x.pass(1));
        Check.same("the younger one", 4, x.nextForgotten());
        x.pass(4);
        Check.same("without things again", -1, x.nextForgotten());
    }

    private static void promise21NextForgottenInTheLight() {
        CandleRooms x = new CandleRooms();
        x.keep(0, 1);
        x.pass(5);
        x.strike(0);
        Check.same("lit, then dark", 7 + 11, x.nextForgotten());
        Check.same("not before", 0, x.pass(17));
        Check.same("now", 1, x.pass(1));
        CandleRooms y = new CandleRooms();
        y.keep(0, 1);
        y.pass(5);
        y.strike(0);
        y.draught(0, 1);
        Check.same("blown out in the next beat: no light in between", 7, y.nextForgotten());
        y.pass(6);
        Check.same("one more", 1, y.pass(1));
        CandleRooms z = new CandleRooms();
        z.keep(0, 1);
        z.keep(1, 2);
        z.strike(0);
        z.pass(6);
        Check.same("the last beat of a candle", 1, z.lasts(0));
        z.set(50);
        Check.same("the thing in the dark", 44, z.nextForgotten());
        z.light(1, 0);
        Check.same("the thing of the burnt candle", 50, z.nextForgotten());
        z.set(1);
        Check.same("at the lowest setting", 1, z.nextForgotten());
    }

    /** A thing that has been dark for 5 beats, and the rest of a candle that is struck again. */
    private static void promise21NextForgottenByRestsOfCandles() {
        int[] lengths = {9, 8, 7, 5, 3, 1};
        int[] due = {17, 16, 15, 14, 13, 7};
        for (int beats = 0; beats < 6; beats++) {
            CandleRooms x = new CandleRooms();
            x.keep(0, 1);
            x.strike(0);
            if (beats > 0) {
                x.pass(beats);
            }
            x.draught(0, 1);
            x.pass(5);
            Check.same("beats in the dark", 5, x.thing(1, 1));
            Check.same("it can be struck", 1, x.carried(0));
            Check.same("struck again", lengths[beats], x.strike(0));
            Check.same("lasts", 6 - beats, x.lasts(0));
            Check.same("next forgotten", due[beats], x.nextForgotten());
            Check.same("not before", 0, x.pass(due[beats] - 1));
            Check.same("but then", 1, x.pass(1));
        }
    }

    private static void promise22Carried() {
        CandleRooms x = new CandleRooms();
        for (int room : NO_ROOMS) {
            Check.noRoom("carried(" + room + ")", x, () -> x.carried(room));
        }
        for (int room = 0; room < 6; room++) {
            Check.same("struck", 1, x.carried(room));
        }
        x.strike(4);
        int[] due = {2, 3, 2, 1, 0, 1};
        for (int room = 0; room < 6; room++) {
            Check.same("carried from the room 4", due[room], x.carried(room));
        }
        x.pass(8);
        Check.same("a burnt candle is not struck", -1, x.carried(4));
        Check.same("another one is", 1, x.carried(3));
    }

    private static void promise22CarriedBothWays() {
        CandleRooms x = new CandleRooms();
        x.strike(0);
        x.door(0, false);
        int[] up = {0, 5, 4, 3, 2, 1};
        for (int room = 0; room < 6; room++) {
            Check.same("the door 0 is shut", up[room], x.carried(room));
        }
        x.door(0, true);
        x.door(5, false);
        for (int room = 0; room < 6; room++) {
            Check.same("the door 5 is shut", room, x.carried(room));
        }
        x.door(2, false);
        int[] both = {0, 1, 2, -1, -1, -1};
        for (int room = 0; room < 6; room++) {
            Check.same("the doors 2 and 5 are shut", both[room], x.carried(room));
        }
        x.door(2, true);
        x.light(1, 0);
        x.light(2, 1);
        Check.same("from the nearest one", 1, x.carried(3));
        Check.same("from the nearest one", 3, x.carried(5));
    }

    private static void promise22CarriedByBurntCandles() {
        CandleRooms x = new CandleRooms();
        x.fresh(2);
        x.strike(2);
        x.light(1, 2);
        x.pass(8);
        Check.same("the room 1 is burnt", 0, x.room(1, 0));
        Check.same("a burnt candle is not lit", -1, x.carried(1));
        Check.same("nor is it a way", 4, x.carried(0));
        x.door(4, false);
        Check.same("no way is left", -1, x.carried(0));
        x.fresh(1);
        Check.same("a new candle makes one", 2, x.carried(0));
    }

    private static void promise23Needy() {
        CandleRooms x = new CandleRooms();
        Check.same("without things", -1, x.needy());
        x.keep(4, 1);
        Check.same("the only one", 4, x.needy());
        x.keep(2, 2);
        Check.same("the lowest", 2, x.needy());
        x.keep(0, 9);
        Check.same("the room 0", 0, x.needy());
        x.undo();
        x.keep(4, 3);
        Check.same("most things", 4, x.needy());
        x.strike(2);
        x.pass(1);
        Check.same("the shortest candle", 2, x.needy());
        x.fresh(2);
        Check.same("a new candle there", 4, x.needy());
        x.fresh(4);
        x.keep(5, 4);
        Check.same("the shortest candle, few things", 5, x.needy());
        x.pass(60);
        Check.same("without things again", -1, x.needy());
    }

    private static void promise24Saves() {
        CandleRooms x = new CandleRooms();
        for (int room : NO_ROOMS) {
            Check.noRoom("saves(" + room + ")", x, () -> x.saves(room));
        }
        Check.same("a candle that does not burn", 0, x.saves(0));
        x.strike(0);
        int[] due = {3, 3, 3, 3, 2, 1, 0, 0};
        for (int beat = 0; beat < 8; beat++) {
            Check.same("saves behind beat " + beat, due[beat], x.saves(0));
            x.pass(1);
        }
        x.fresh(0);
        x.strike(0);
        Check.same("a new candle", 10, x.saves(0));
        x.draught(0, 6);
        Check.same("with no draught", 10, x.saves(0));
        x.undo();
        x.pass(6);
        Check.same("by a thick wick", 7, x.saves(0));
        x.draught(0, 1);
        x.pass(1);
        Check.same("blown out", 0, x.saves(0));
    }

    private static void promise25Lit() {
        CandleRooms x = new CandleRooms();
        Check.sameShare("without things", 1.0, x.lit());
        x.keep(0, 1);
        Check.sameShare("dark", 0.0, x.lit());
        x.strike(0);
        Check.sameShare("lit", 1.0, x.lit());
        x.keep(1, 2);
        x.keep(2, 3);
        Check.sameShare("a third", 1.0 / 3.0, x.lit());
        x.light(1, 0);
        Check.sameShare("two thirds", 2.0 / 3.0, x.lit());
        x.pass(20);
        Check.sameShare("forgotten", 1.0, x.lit());
    }

    /** The key and the beats in the dark of each thing, by room and place. */
    private static int[][][] thingsOf(CandleRooms x) {
        int[][][] things = new int[6][4][];
        for (int key = 0; key < 100; key++) {
            int room = x.thing(key, 0);
            if (room != -1) {
                things[room][x.thing(key, 2)] = new int[] {key, x.thing(key, 1)};
            }
        }
        return things;
    }

    /** The digest by the document's words, out of the other calls: some 240 of them. */
    private static long digestOf(CandleRooms x, String buffer) {
        int[][][] things = thingsOf(x);
        long hash = 3499;
        for (int what = 0; what < 12; what++) {
            hash = 31 * hash + x.count(what);
        }
        for (int room = 0; room < 6; room++) {
            for (int what = 0; what < 8; what++) {
                hash = 31 * hash + x.room(room, what);
            }
            for (int place = 0; place < x.room(room, 4); place++) {
                hash = 31 * hash + things[room][place][0];
                hash = 31 * hash + things[room][place][1];
            }
            hash = 31 * hash + x.lasts(room);
            hash = 31 * hash + x.carried(room);
            hash = 31 * hash + x.saves(room);
        }
        hash = 31 * hash + x.nextForgotten();
        hash = 31 * hash + x.needy();
        hash = 31 * hash + Double.doubleToLongBits(x.lit());
        hash = 31 * hash + buffer.length();
        for (int place = 0; place < buffer.length(); place++) {
            hash = 31 * hash + buffer.charAt(place);
        }
        return hash;
    }

    private static void promise26Digest() {
        Check.same("digest of a new one", digestOf(new CandleRooms(), ""), new CandleRooms().digest());
        // Every share of things in the light, so that all bits are seen.
        for (int inLight = 0; inLight <= 4; inLight++) {
            for (int inDark = 0; inDark <= 20; inDark++) {
                CandleRooms x = new CandleRooms();
                x.strike(0);
                for (int key = 0; key < inLight; key++) {
                    x.keep(0, 90 + key);
                }
                for (int key = 0; key < inDark; key++) {
                    x.keep(1 + key / 4, key);
                }
                Check.type(x, "0*x~!");
                Check.same("digest", digestOf(x, "0*x~!"), x.digest());
            }
        }
        for (int lit = 1; lit <= 6; lit++) {
            for (int beats = 0; beats < 20; beats += 3) {
                CandleRooms x = new CandleRooms();
                for (int key = 0; key < 24; key++) {
                    x.keep(key / 4, key);
                }
                Check.play(x, "0*,1<,2<,3<,4<,5<".substring(0, 3 * lit - 1));
                x.draught(1, 3);
                if (beats > 0) {
                    x.pass(beats);
                }
                Check.same("digest", digestOf(x, ""), x.digest());
            }
        }
    }
}
