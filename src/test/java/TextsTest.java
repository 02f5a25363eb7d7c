/** Promises 12 to 16: the buffer, deeds as texts, undo. */
public final class TextsTest {
    public static void main(String[] args) {
        promise12Append();
        promise13ClearBuffer();
        promise14FirstErrorOfEachSign();
        promise14FirstErrorOfKeys();
        promise14FirstErrorOfLongTexts();
        promise15PlayEachDeed();
        promise15PlayStops();
        promise15PlayRefused();
        promise15PlayIsOneCall();
        promise16Undo();
        promise16UndoOfAll();
        promise16UndoOfForgetting();
        Check.end("TextsTest");
    }

    private static void promise12Append() {
        CandleRooms x = new CandleRooms();
        int[] codes = {32, 127, 0, -1, 33 + 65536, Integer.MAX_VALUE, Integer.MIN_VALUE};
        for (int code : codes) {
            Check.badArgument("append(" + code + ")", x, () -> x.append(code));
        }
        Check.same("the lowest code", 1, x.append(33));
        Check.same("the highest code", 2, x.append(126));
        Check.same("append is not undoable", 0, x.count(11));
        for (int length = 3; length <= 60; length++) {
            Check.same("append", length, x.append('0'));
        }
        Check.badState("append to a full buffer", x, () -> x.append('0'));
        Check.badArgument("append, both exceptions", x, () -> x.append(32));
        Check.same("it holds 60", 60, x.clearBuffer());
    }

    private static void promise13ClearBuffer() {
        CandleRooms x = new CandleRooms();
        Check.same("clear an empty buffer", 0, x.clearBuffer());
        Check.type(x, "0*,x");
        Check.same("clear", 4, x.clearBuffer());
        Check.same("it is empty", 0, x.clearBuffer());
        Check.same("clearing is not undoable", 0, x.count(11));
        Check.same("append begins anew", 1, x.append('0'));
        Check.same("nothing of the old text is left", 1, x.firstError());
    }

    private static void error(String text, int due) {
        CandleRooms x = new CandleRooms();
        Check.type(x, text);
        Check.same("firstError of " + text, due, x.firstError());
        Check.same("firstError changes nothing", text.length(), x.clearBuffer());
    }

    /** Tells for each code whether it may stand behind this beginning. */
    private static void mayFollow(String beginning, String signs) {
        for (char code = 33; code <= 126; code++) {
            boolean may = signs.indexOf(code) >= 0;
            error(beginning + code, beginning.length() + (may ? 1 : 0));
        }
    }

    private static void promise14FirstErrorOfEachSign() {
        error("", 0);
        mayFollow("", "012345");
        for (char room = '0'; room <= '5'; room++) {
            mayFollow("" + room, "*<>nb+");
        }
        mayFollow("0*", ",");
        mayFollow("1<", ",");
        mayFollow("2>", ",");
        mayFollow("3n", ",");
        mayFollow("4b", "123456");
        for (char strength = '1'; strength <= '6'; strength++) {
            mayFollow("4b" + strength, ",");
        }
        mayFollow("0*,", "012345");
        mayFollow("0*,5", "*<>nb+");
    }

    private static void promise14FirstErrorOfKeys() {
        mayFollow("5+", "0123456789");
        mayFollow("5+0", ",");
        for (char digit = '1'; digit <= '9'; digit++) {
            mayFollow("5+" + digit, "0123456789,");
        }
        mayFollow("5+10", ",");
        mayFollow("5+99", ",");
        mayFollow("5+9,", "012345");
    }

    private static void promise14FirstErrorOfLongTexts() {
        error("0*,1<,2>,3n,4b6,5+99", 20);
        error("0*,1<,2>,3n,4b7,5+99", 14);
        error("x*x", 0);
        error("0**0*", 2);
        error(",", 0);
        StringBuilder full = new StringBuilder("0*");
        while (full.length() < 59) {
            full.append(",0*");
        }
        full.append(',');
        error(full.substring(0, 60), 60);
        // The text could go on, though the buffer could not.
        error(full.substring(0, 59) + ",", 60);
        error(full.substring(0, 59) + "0", 59);
    }

    private static void promise15PlayEachDeed() {
        CandleRooms x = new CandleRooms();
        Check.same("strike", 1, Check.play(x, "3*"));
        Check.same("struck", 1, x.room(3, 1));
        Check.same("light from both sides", 2, Check.play(x, "4<,2>"));
        Check.same("lit from the lower one", 1, x.room(4, 1));
        Check.same("lit from the next one", 1, x.room(2, 1));
        Check.same("a new candle", 1, Check.play(x, "3n"));
        Check.same("its length", 20, x.room(3, 0));
        Check.same("it burns not", 0, x.room(3, 1));
        Check.same("from the box", 11, x.count(1));
        for (int strength = 1; strength <= 6; strength++) {
            Check.same("a draught", 1, Check.play(x, "5b" + strength));
            Check.same("its room", 5, x.count(8));
            Check.same("its strength", strength, x.count(9));
        }
        Check.same("keep", 4, Check.play(x, "1+0,1+9,1+10,0+99"));
        Check.same("kept", 0, x.thing(0, 2));
        Check.same("kept", 1, x.thing(9, 2));
        Check.same("kept", 2, x.thing(10, 2));
        Check.same("kept", 0, x.thing(99, 0));
        CandleRooms y = new CandleRooms();
        Check.same("round the ring, down", 3, Check.play(y, "0*,5>,4>"));
        CandleRooms z = new CandleRooms();
        Check.same("round the ring, up", 3, Check.play(z, "5*,0<,1<"));
        Check.same("the room 0 from the room 5", 1, z.room(0, 1));
        Check.same("no beats pass", 0, z.count(0));
    }

    private static void promise15PlayStops() {
        CandleRooms x = new CandleRooms();
        Check.same("a second strike", 1, Check.play(x, "0*,1*,2n"));
        Check.same("nothing behind it is done", 12, x.count(1));
        Check.same("the buffer is clear", 0, x.clearBuffer());
        Check.same("no light beside", 0, Check.play(x, "3<,2n"));
        Check.same("it burns already", 0, Check.play(x, "0>,2n"));
        x.door(0, false);
        Check.same("a shut door", 0, Check.play(x, "1<,2n"));
        Check.same("a key twice", 1, Check.play(x, "1+5,2+5,3+6"));
        Check.same("a full room", 4, Check.play(x, "4+1,4+2,4+3,4+4,4+6,2n"));
        Check.same("the empty box", 12, Check.play(x, "0n,1n,2n,3n,4n,5n,0n,1n,2n,3n,4n,5n,0n,0b1"));
        Check.same("no draught behind it", -1, x.count(8));
        x.strike(2);
        x.pass(10);
        Check.same("a burnt candle", 0, Check.play(x, "2*"));
    }

    private static void promise15PlayRefused() {
        String[] texts = {"", "0", "0*,", "0b", "0+", "0*0", "6*", "0*,1<,", "x", "0+00", "0b7",
            "0n,0n,5", "0*,,1<", "0n,x"};
        for (String text : texts) {
            CandleRooms x = new CandleRooms();
            Check.type(x, text);
            Check.badArgument("play " + text, x, () -> x.play());
            Check.same("the buffer stays", text.length(), x.clearBuffer());
        }
    }

    private static void promise15PlayIsOneCall() {
        CandleRooms x = new CandleRooms();
        Check.play(x, "0*,1<,2<,0+5");
        Check.same("one saved state", 1, x.count(11));
        Check.same("nothing is done", 0, Check.play(x, "0*"));
        Check.same("saved all the same", 2, x.count(11));
        Check.type(x, "zz");
        Check.same("undo", 1, x.undo());
        Check.same("it was nothing", 3, x.count(2));
        Check.same("undo", 0, x.undo());
        Check.same("all deeds are undone", 0, x.count(2));
        Check.same("the thing too", -1, x.thing(5, 0));
        Check.same("undo leaves the buffer", 2, x.clearBuffer());
    }

    private static void promise16Undo() {
        CandleRooms x = new CandleRooms();
        Check.badState("undo of nothing", x, () -> x.undo());
        for (int beats = 1; beats <= 9; beats++) {
            x.set(beats);
            Check.same("saved states", Math.min(6, beats), x.count(11));
        }
        for (int left = 5; left >= 0; left--) {
            Check.same("undo", left, x.undo());
            Check.same("saved states", left, x.count(11));
            Check.same("the setting", left + 3, x.count(10));
        }
        Check.badState("undo of the seventh", x, () -> x.undo());
        x.set(20);
        x.set(21);
        x.undo();
        x.set(22);
        Check.same("undo behind undo", 1, x.undo());
        Check.same("the setting", 20, x.count(10));
        Check.same("undo behind undo", 0, x.undo());
        Check.same("the setting", 3, x.count(10));
    }

    private static void promise16UndoOfForgetting() {
        CandleRooms x = new CandleRooms();
        x.keep(3, 1);
        x.pass(2);
        x.keep(3, 2);
        x.keep(3, 3);
        x.pass(10);
        Check.same("forgotten", 2, x.keep(0, 1) + x.count(4));
        Check.same("the first one is gone", 2, x.room(3, 7));
        x.undo();
        x.undo();
        int[] beats = {2, 0, 0};
        for (int place = 0; place < 3; place++) {
            Check.same("its room again", 3, x.thing(place + 1, 0));
            Check.same("its beats again", beats[place], x.thing(place + 1, 1));
            Check.same("its place again", place, x.thing(place + 1, 2));
        }
        Check.same("forgotten so far", 0, x.count(4));
    }

    /** Each undoable method, one after the other, is taken back in full. */
    private static void promise16UndoOfAll() {
        CandleRooms x = new CandleRooms();
        Check.play(x, "0*,1<,2+50,2+51,1+60");
        x.pass(3);
        x.shield(4, true);
        x.door(3, false);
        x.draught(1, 2);
        Check.type(x, "4+9,4+8");
        Check.Call[] calls = {
            () -> x.light(2, 1), () -> x.fresh(0), () -> x.door(0, false),
            () -> x.shield(5, true), () -> x.draught(0, 6), () -> x.set(2), () -> x.keep(3, 9),
            () -> x.read(50), () -> x.read(60), () -> x.read(61), () -> x.pass(60),
            () -> x.pass(1)};
        x.set(12);
        x.undo();
        long before = x.digest();
        int number = 0;
        for (Check.Call call : calls) {
            call.make();
            x.undo();
            Check.same("undo of call " + number, before, x.digest());
            number++;
        }
        int saved = x.count(11);
        x.play();
        Check.same("played", 4, x.thing(8, 0));
        x.undo();
        Check.same("saved states as before", saved, x.count(11));
        Check.type(x, "4+9,4+8");
        Check.same("undo of play", before, x.digest());
        CandleRooms y = new CandleRooms();
        y.strike(4);
        y.undo();
        Check.same("undo of strike", new CandleRooms().digest(), y.digest());
    }
}
