/** Terms, "Undo" and "Exceptions", and promise 16: each sentence that names a bound. */
public final class UndoSentencesTest {
    public static void main(String[] args) {
        eachUndoableCallSavesOne();
        savedAlsoIfNothingChanges();
        theOtherCallsSaveNothing();
        refusedCallsSaveNothing();
        allIsSaved();
        thingsAreSaved();
        whatIsCountedIsSaved();
        theBufferIsNotSaved();
        theSavedStatesAreNotSaved();
        sixStatesAtMost();
        theOldestIsDropped();
        savedAndDroppedManyTimes();
        promise16NoneIsSaved();
        refusedCallsChangeNothing();
        theFirstExceptionOfTwo();
        Check.end("UndoSentencesTest");
    }

    /** 4 states are saved, the room 1 burns, "2<" is in the buffer: all undoable calls can be. */
    private static CandleRooms ready() {
        CandleRooms x = new CandleRooms();
        x.strike(1);
        x.keep(1, 10);
        x.keep(3, 30);
        x.pass(2);
        Check.type(x, "2<");
        return x;
    }

    private static Check.Call[] undoable(CandleRooms x) {
        return new Check.Call[] {
            () -> x.light(0, 1), () -> x.fresh(1), () -> x.door(5, false),
            () -> x.shield(0, true), () -> x.draught(1, 6), () -> x.set(1),
            () -> x.keep(0, 99), () -> x.read(10), () -> x.read(30), () -> x.pass(1),
            () -> x.pass(60)};
    }

    /** "Each method that is marked "undoable" ... saves the state": one, by each of them. */
    private static void eachUndoableCallSavesOne() {
        CandleRooms x = ready();
        int number = 0;
        for (Check.Call call : undoable(x)) {
            long before = x.digest();
            call.make();
            Check.same("call " + number + " saves", 5, x.count(11));
            Check.same("undo", 4, x.undo());
            Check.same("call " + number + " is undone", before, x.digest());
            number++;
        }
        Check.same("play", 1, x.play());
        Check.same("play saves", 5, x.count(11));
        Check.same("undo", 4, x.undo());
        Check.same("play is undone", 0, x.room(2, 1));
        CandleRooms y = new CandleRooms();
        y.strike(2);
        Check.same("strike saves", 1, y.count(11));
        Check.same("undo", 0, y.undo());
        Check.same("strike is undone", 0, y.room(2, 1));
    }

    /** "(also if it changes nothing)". */
    private static void savedAlsoIfNothingChanges() {
        CandleRooms x = new CandleRooms();
        x.door(2, true);
        Check.same("an open door is opened", 1, x.count(11));
        x.shield(2, false);
        Check.same("no shield is taken away", 2, x.count(11));
        x.set(12);
        Check.same("the same setting", 3, x.count(11));
        x.read(5);
        Check.same("no thing is read", 4, x.count(11));
        Check.play(x, "0<");
        Check.same("nothing is played", 5, x.count(11));
        for (int left = 4; left >= 0; left--) {
            Check.same("undo", left, x.undo());
        }
        CandleRooms y = new CandleRooms();
        y.draught(3, 3);
        y.draught(3, 3);
        Check.same("the same draught", 2, y.count(11));
        y.fresh(0);
        Check.same("undo", 2, y.undo());
        Check.same("the same draught", 3, y.count(8));
        y.undo();
        Check.same("the same draught", 3, y.count(8));
        y.undo();
        Check.same("none", -1, y.count(8));
    }

    /** The methods that are not marked "undoable". */
    private static void theOtherCallsSaveNothing() {
        CandleRooms x = ready();
        int saved = x.count(11);
        x.append('x');
        x.firstError();
        x.clearBuffer();
        x.room(0, 0);
        x.thing(10, 0);
        x.count(0);
        x.lasts(1);
        x.nextForgotten();
        x.carried(0);
        x.needy();
        x.saves(1);
        x.lit();
        x.digest();
        Check.same("as before", saved, x.count(11));
        x.undo();
        Check.same("undo saves nothing", saved - 1, x.count(11));
    }

    private static void refusedCallsSaveNothing() {
        CandleRooms x = new CandleRooms();
        x.strike(0);
        Check.badState("strike", x, () -> x.strike(1));
        Check.badArgument("play", x, () -> x.play());
        Check.badArgument("pass", x, () -> x.pass(0));
        Check.same("one is saved", 1, x.count(11));
        Check.same("undo", 0, x.undo());
        Check.same("of strike", 0, x.count(2));
    }

    /** "saves the state from before it: all": two calls, undone one by one. */
    private static void allIsSaved() {
        CandleRooms x = ready();
        int number = 0;
        for (Check.Call first : undoable(x)) {
            long before = x.digest();
            first.make();
            long between = x.digest();
            x.pass(60);
            x.undo();
            Check.same("behind call " + number, between, x.digest());
            x.undo();
            Check.same("ahead of call " + number, before, x.digest());
            number++;
        }
    }

    /** "all": things that were forgotten, with their keys, beats and places. */
    private static void thingsAreSaved() {
        CandleRooms x = new CandleRooms();
        for (int key = 4; key >= 1; key--) {
            x.keep(5, key);
            x.pass(1);
        }
        long before = x.digest();
        Check.same("the first two are forgotten", 2, x.pass(9));
        x.keep(5, 99);
        Check.same("the third one is", 1, x.pass(1));
        for (int undone = 0; undone < 3; undone++) {
            x.undo();
        }
        for (int key = 4; key >= 1; key--) {
            Check.same("its room again", 5, x.thing(key, 0));
            Check.same("its beats again", key, x.thing(key, 1));
            Check.same("its place again", 4 - key, x.thing(key, 2));
        }
        Check.same("the other one never came", -1, x.thing(99, 0));
        // Six states were saved ahead of the three calls; three of them were dropped.
        for (int calls = 0; calls < 3; calls++) {
            x.set(12);
        }
        Check.same("as before", before, x.digest());
    }

    /** "also what is counted so far". */
    private static void whatIsCountedIsSaved() {
        CandleRooms x = new CandleRooms();
        x.keep(0, 1);
        x.keep(1, 2);
        x.strike(0);
        x.read(1);
        x.draught(0, 1);
        x.read(2);
        int[] counts = {4, 12, 0, 2, 0, 2, 1, 1, -1, 0, 12, 6};
        for (int what = 0; what < 12; what++) {
            Check.same("count(" + what + ")", counts[what], x.count(what));
        }
        Check.same("burnt so far", 2, x.room(0, 6));
        x.undo();
        int[] undone = {1, 12, 1, 2, 0, 1, 0, 0, 0, 1, 12, 5};
        for (int what = 0; what < 12; what++) {
            Check.same("undone count(" + what + ")", undone[what], x.count(what));
        }
        Check.same("burnt so far", 1, x.room(0, 6));
        CandleRooms y = new CandleRooms();
        y.keep(0, 1);
        y.pass(12);
        Check.same("forgotten", 1, y.count(4));
        y.undo();
        Check.same("not forgotten", 0, y.count(4));
        Check.same("it is there again", 0, y.thing(1, 2));
    }

    /** "but the buffer". */
    private static void theBufferIsNotSaved() {
        CandleRooms x = new CandleRooms();
        Check.type(x, "0*");
        x.set(5);
        Check.type(x, ",1<");
        x.undo();
        Check.same("undo takes no text away", 5, x.clearBuffer());
        x.set(5);
        x.undo();
        Check.same("undo brings no text back", 0, x.clearBuffer());
        Check.type(x, "0*");
        x.play();
        Check.type(x, "1<,2");
        x.undo();
        Check.same("the text behind play stays", 4, x.firstError());
        Check.same("the text behind play stays", 4, x.clearBuffer());
    }

    /** "and the saved states". */
    private static void theSavedStatesAreNotSaved() {
        CandleRooms x = new CandleRooms();
        for (int beats = 1; beats <= 6; beats++) {
            x.set(beats);
        }
        Check.same("undo", 5, x.undo());
        Check.same("undo", 4, x.undo());
        x.set(40);
        Check.same("undo", 4, x.undo());
        Check.same("undo goes on", 3, x.undo());
        Check.same("with the state before", 3, x.count(10));
    }

    /** "At most 6 states are saved". */
    private static void sixStatesAtMost() {
        CandleRooms x = new CandleRooms();
        for (int calls = 1; calls <= 20; calls++) {
            x.pass(1);
            Check.same("saved", Math.min(calls, 6), x.count(11));
        }
        for (int left = 5; left >= 0; left--) {
            Check.same("undo", left, x.undo());
            Check.same("beats", 14 + left, x.count(0));
        }
        Check.badState("the seventh", x, () -> x.undo());
    }

    /** "the oldest one is dropped first". */
    private static void theOldestIsDropped() {
        CandleRooms x = new CandleRooms();
        for (int calls = 1; calls <= 6; calls++) {
            x.pass(1);
        }
        for (int left = 5; left >= 0; left--) {
            x.undo();
        }
        Check.same("the sixth undo leads to the beginning", 0, x.count(0));
        for (int calls = 1; calls <= 7; calls++) {
            x.pass(1);
        }
        for (int left = 5; left >= 0; left--) {
            x.undo();
        }
        Check.same("it is dropped by the seventh call", 1, x.count(0));
        Check.badState("no other", x, () -> x.undo());
    }

    /** Saved, dropped and restored on and on: each undo leads to the beat before. */
    private static void savedAndDroppedManyTimes() {
        CandleRooms x = new CandleRooms();
        int beats = 0;
        for (int time = 0; time < 15; time++) {
            for (int call = 0; call < 9; call++) {
                x.pass(1);
                beats++;
            }
            for (int undone = 1; undone <= 1 + time % 6; undone++) {
                beats--;
                Check.same("left", 6 - undone, x.undo());
                Check.same("beats", beats, x.count(0));
            }
        }
    }

    /** "if there is none". */
    private static void promise16NoneIsSaved() {
        CandleRooms x = new CandleRooms();
        Check.badState("of a new one", x, () -> x.undo());
        Check.type(x, "0*");
        Check.badState("of a text that is not played", x, () -> x.undo());
        x.play();
        Check.same("the last one", 0, x.undo());
        Check.badState("behind the last one", x, () -> x.undo());
        x.set(7);
        Check.same("one again", 0, x.undo());
        Check.same("restored", 12, x.count(10));
        Check.badState("none again", x, () -> x.undo());
    }

    /** "A call that throws an exception changes nothing.": nor what is saved. */
    private static void refusedCallsChangeNothing() {
        CandleRooms x = ready();
        CandleRooms y = ready();
        for (CandleRooms each : new CandleRooms[] {x, y}) {
            each.door(3, false);
            each.draught(5, 2);
        }
        refuse(x);
        for (int left = 5; left >= 0; left--) {
            Check.same("as the one without refused calls", y.digest(), x.digest());
            Check.same("undo", left, x.undo());
            y.undo();
        }
        Check.same("to the end", y.digest(), x.digest());
        Check.same("the text too", 2, x.firstError());
    }

    private static void refuse(CandleRooms x) {
        Check.noRoom("strike", x, () -> x.strike(6));
        Check.badState("strike", x, () -> x.strike(0));
        Check.noRoom("light", x, () -> x.light(6, 1));
        Check.badState("light", x, () -> x.light(4, 1));
        Check.noRoom("fresh", x, () -> x.fresh(-1));
        Check.noRoom("door", x, () -> x.door(6, true));
        Check.noRoom("shield", x, () -> x.shield(-1, true));
        Check.noRoom("draught", x, () -> x.draught(6, 6));
        Check.badArgument("draught", x, () -> x.draught(0, 7));
        Check.badArgument("set", x, () -> x.set(51));
        Check.noRoom("keep", x, () -> x.keep(6, 1));
        Check.badArgument("keep", x, () -> x.keep(0, 100));
        Check.badState("keep", x, () -> x.keep(0, 30));
        Check.badArgument("read", x, () -> x.read(100));
        Check.badArgument("pass", x, () -> x.pass(61));
        Check.badArgument("append", x, () -> x.append(32));
        Check.noRoom("room", x, () -> x.room(6, 0));
        Check.badArgument("room", x, () -> x.room(0, 8));
        Check.badArgument("thing", x, () -> x.thing(100, 0));
        Check.badArgument("thing", x, () -> x.thing(0, 3));
        Check.badArgument("count", x, () -> x.count(12));
        Check.noRoom("lasts", x, () -> x.lasts(6));
        Check.noRoom("carried", x, () -> x.carried(6));
        Check.noRoom("saves", x, () -> x.saves(6));
    }

    /** "the one that is named first in the throws clause is thrown". */
    private static void theFirstExceptionOfTwo() {
        CandleRooms x = Stores.full();
        x.strike(0);
        Check.type(x, "0*,".repeat(20));
        for (int fresh = 0; fresh < 12; fresh++) {
            x.fresh(1);
        }
        for (int bad : new int[] {-1, 6, Stores.LOWEST, Stores.HIGHEST}) {
            Check.noRoom("strike: some candle burns", x, () -> x.strike(bad));
            Check.noRoom("light: it burns", x, () -> x.light(0, bad));
            Check.noRoom("light: no door", x, () -> x.light(bad, 0));
            Check.noRoom("fresh: the box is empty", x, () -> x.fresh(bad));
            Check.noRoom("draught: no strength", x, () -> x.draught(bad, 0));
            Check.noRoom("keep: no key", x, () -> x.keep(bad, -1));
            Check.noRoom("keep: the key is taken", x, () -> x.keep(bad, 5));
            Check.noRoom("room: no number", x, () -> x.room(bad, 8));
        }
        Check.badArgument("keep: the room is full", x, () -> x.keep(0, 100));
        Check.badArgument("append: the buffer is full", x, () -> x.append(127));
    }
}
