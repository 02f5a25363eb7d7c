/** Terms, "Input text", and promises 12 to 15: each sentence that names a bound. */
public final class TextSentencesTest {
    /** 15 deeds in 60 characters, all of them possible. */
    private static final String FULL = "0b1,".repeat(14) + "0+10";

    public static void main(String[] args) {
        bufferHasSixtyAtMost();
        oneOrMoreParts();
        commasBetweenParts();
        roomZeroToFive();
        roomIsOneDigit();
        signsAreSix();
        litFromOneLess();
        litFromTheNext();
        strengthOneToSix();
        keyZeroToNinetyNine();
        keyWithoutLeadingZero();
        partsOfFixedLengthEnd();
        firstErrorFromLeftToRight();
        deedsOfAnyLength();
        promise12CodeInRange();
        promise12BufferIsFull();
        promise13LengthThatItHad();
        promise14LengthIfThereIsNone();
        promise15NotComplete();
        promise15UpToTheFirstNotPossible();
        promise15EachRefusal();
        promise15ClearsTheBuffer();
        promise15NothingOfAnOlderText();
        promise15FullBuffer();
        Check.end("TextSentencesTest");
    }

    private static void error(String text, int due) {
        CandleRooms x = new CandleRooms();
        Check.type(x, text);
        Check.same("first error of " + text, due, x.firstError());
    }

    private static void complete(String text) {
        error(text, text.length());
        CandleRooms x = new CandleRooms();
        Check.type(x, text);
        x.play();
        Check.same("played " + text, 1, x.count(11));
    }

    private static void incomplete(String text, int error) {
        error(text, error);
        CandleRooms x = new CandleRooms();
        Check.type(x, text);
        Check.badArgument("play " + text, x, () -> x.play());
        Check.same("the buffer stays", text.length(), x.clearBuffer());
    }

    /** "The buffer has at most 60 characters." */
    private static void bufferHasSixtyAtMost() {
        CandleRooms x = new CandleRooms();
        for (int length = 1; length <= 60; length++) {
            Check.same("append", length, x.append('z'));
        }
        Check.badState("the 61st", x, () -> x.append('z'));
        Check.same("60", 60, x.clearBuffer());
        Check.same("the first again", 1, x.append('z'));
    }

    /** "one or more parts". */
    private static void oneOrMoreParts() {
        incomplete("", 0);
        complete("0*");
        complete("0*,1<");
        complete("0*,1<,2<,3<,4<,5<,0n,1n,2n,3n,4n,5n,0b1,1b2,2b3,3b4,4b5");
    }

    /** "with "," between them". */
    private static void commasBetweenParts() {
        incomplete(",", 0);
        incomplete(",0*", 0);
        incomplete("0*,", 3);
        incomplete("0*,,1*", 3);
        incomplete("0*;1*", 2);
        incomplete("0*1*", 2);
        incomplete("0*,1*,", 6);
        incomplete("0+1,", 4);
        incomplete("0+10,", 5);
        incomplete("0b1,", 4);
        incomplete("0,", 1);
        incomplete("0b,", 2);
        incomplete("0+,", 2);
    }

    /** "a room, 0 to 5". */
    private static void roomZeroToFive() {
        for (int room = 0; room <= 5; room++) {
            complete(room + "n");
        }
        incomplete("6n", 0);
        incomplete("9n", 0);
        incomplete("/n", 0);
        incomplete(":n", 0);
        incomplete("-1n", 0);
        incomplete("n", 0);
        incomplete("0n,6n", 3);
        incomplete("0n,/n", 3);
    }

    private static void roomIsOneDigit() {
        incomplete("00n", 1);
        incomplete("05n", 1);
        incomplete("5", 1);
        incomplete("0n,5", 4);
    }

    /** "and a sign": six of them, and no other one. */
    private static void signsAreSix() {
        for (char code = 33; code <= 126; code++) {
            error("3" + code, "*<>nb+".indexOf(code) >= 0 ? 2 : 1);
        }
        complete("3*");
        complete("3<");
        complete("3>");
        complete("3n");
        incomplete("3b", 2);
        incomplete("3+", 2);
    }

    /** "lit from the room with the number 1 less, 5 for the room 0". */
    private static void litFromOneLess() {
        for (int room = 0; room < 6; room++) {
            CandleRooms x = new CandleRooms();
            x.strike(Stores.previous(room));
            Check.same("from one less", 1, Check.play(x, room + "<"));
            Check.same("it burns", 1, x.room(room, 1));
            CandleRooms y = new CandleRooms();
            y.strike(Stores.next(room));
            Check.same("not from the next", 0, Check.play(y, room + "<"));
            CandleRooms z = new CandleRooms();
            z.strike(Stores.previous(room));
            z.door(Stores.previous(room), false);
            Check.same("not through the shut door", 0, Check.play(z, room + "<"));
        }
    }

    /** "lit from the next one", 0 for the room 5. */
    private static void litFromTheNext() {
        for (int room = 0; room < 6; room++) {
            CandleRooms x = new CandleRooms();
            x.strike(Stores.next(room));
            Check.same("from the next", 1, Check.play(x, room + ">"));
            Check.same("it burns", 1, x.room(room, 1));
            CandleRooms y = new CandleRooms();
            y.strike(Stores.previous(room));
            Check.same("not from one less", 0, Check.play(y, room + ">"));
            CandleRooms z = new CandleRooms();
            z.strike(Stores.next(room));
            z.door(room, false);
            Check.same("not through the shut door", 0, Check.play(z, room + ">"));
        }
    }

    /** ""b" and a strength, 1 to 6". */
    private static void strengthOneToSix() {
        for (int strength = 1; strength <= 6; strength++) {
            CandleRooms x = Stores.allLit();
            Check.same("strength " + strength, 1, Check.play(x, "5b" + strength));
            Check.same("it is", strength, x.count(9));
            Check.same("it begins there", 5, x.count(8));
            x.pass(1);
            Check.same("it blows", strength, x.count(7));
        }
        incomplete("5b", 2);
        incomplete("5b0", 2);
        incomplete("5b7", 2);
        incomplete("5b9", 2);
        incomplete("5b+", 2);
        incomplete("5b/", 2);
    }

    /** ""+" and a key, 0 to 99". */
    private static void keyZeroToNinetyNine() {
        for (int key : new int[] {0, 1, 9, 10, 19, 90, 99}) {
            CandleRooms x = new CandleRooms();
            Check.same("key " + key, 1, Check.play(x, "4+" + key));
            Check.same("it is kept there", 4, x.thing(key, 0));
            Check.same("it alone", 1, x.count(3));
        }
        incomplete("4+", 2);
        incomplete("4+-1", 2);
        incomplete("4+/", 2);
        incomplete("4+:", 2);
        incomplete("4+100", 4);
        incomplete("4+999", 4);
        incomplete("4+9:", 3);
        incomplete("4+9/", 3);
    }

    /** "without a leading zero". */
    private static void keyWithoutLeadingZero() {
        complete("4+0");
        complete("4+0,4+1");
        for (int digit = 0; digit <= 9; digit++) {
            incomplete("4+0" + digit, 3);
        }
        complete("4+10");
        complete("4+20,4+30");
    }

    /** Behind a whole part there is a comma, or nothing. */
    private static void partsOfFixedLengthEnd() {
        String[] parts = {"0*", "0<", "0>", "0n", "0b6", "0+0", "0+99"};
        for (String part : parts) {
            for (char code : "0123456789*<>nb+x".toCharArray()) {
                incomplete(part + code, part.length());
            }
            complete(part);
            complete(part + ",1n");
        }
    }

    /** "read from left to right": the first of several errors. */
    private static void firstErrorFromLeftToRight() {
        incomplete("x*,6n,0b0", 0);
        incomplete("0*,6n,0b0", 3);
        incomplete("0*,5n,0b0", 8);
        incomplete("0*xxxx", 2);
        incomplete("0**,", 2);
    }

    /** "of any length": more than the buffer could hold may begin with it. */
    private static void deedsOfAnyLength() {
        String all = "0*,".repeat(20);
        incomplete(all, 60);
        incomplete(all.substring(0, 58), 58);
        incomplete("0+1,".repeat(14) + "0+1,", 60);
        incomplete("0+1,".repeat(14) + "0*,1", 60);
        incomplete("0+1,".repeat(14) + "0*,x", 59);
        incomplete("x" + all.substring(1), 0);
        complete(FULL);
    }

    /** "code: the character code, 33 to 126". */
    private static void promise12CodeInRange() {
        CandleRooms x = new CandleRooms();
        int[] codes = {32, 127, 0, -1, 10, 128, 255, 65536 + 48, Stores.LOWEST, Stores.HIGHEST};
        for (int code : codes) {
            Check.badArgument("append(" + code + ")", x, () -> x.append(code));
        }
        long hash = x.digest();
        Check.same("33", 1, x.append(33));
        Check.same("126", 2, x.append(126));
        Check.same("any beginning is kept, also a wrong one", 0, x.firstError());
        x.clearBuffer();
        Check.same("as before", hash, x.digest());
    }

    /** "if the buffer has 60 characters". */
    private static void promise12BufferIsFull() {
        CandleRooms x = new CandleRooms();
        Check.type(x, FULL.substring(0, 59));
        Check.same("the 60th", 60, x.append('0'));
        Check.badState("the 61st", x, () -> x.append('0'));
        Check.badState("any other", x, () -> x.append(126));
        Check.badArgument("no code either", x, () -> x.append(127));
        Check.badArgument("no code either", x, () -> x.append(32));
        Check.same("the 60 are as they were", 15, x.play());
    }

    /** "Returns the length that it had.": 0, 1, 60. */
    private static void promise13LengthThatItHad() {
        CandleRooms x = new CandleRooms();
        Check.same("empty", 0, x.clearBuffer());
        x.append('5');
        Check.same("one", 1, x.clearBuffer());
        Check.type(x, FULL);
        Check.same("full", 60, x.clearBuffer());
        Check.same("empty again", 0, x.clearBuffer());
        Check.same("no error is left", 0, x.firstError());
        Check.badArgument("nothing to play", x, () -> x.play());
    }

    /** "the length of the buffer if there is none". */
    private static void promise14LengthIfThereIsNone() {
        for (int length = 0; length <= 60; length++) {
            error(FULL.substring(0, length), length);
        }
        CandleRooms x = new CandleRooms();
        Check.type(x, "0*x");
        Check.same("an error", 2, x.firstError());
        Check.same("told again", 2, x.firstError());
        Check.same("it stays in the buffer", 3, x.clearBuffer());
        Check.same("an empty buffer has none", 0, x.firstError());
    }

    /** "if the buffer is not complete deeds as a text": no error, and yet not the end. */
    private static void promise15NotComplete() {
        for (int length = 0; length <= 60; length++) {
            String text = FULL.substring(0, length);
            // "0b1," is complete with its strength; "0+10" with one digit or two.
            if (length % 4 == 3 || length == 60) {
                complete(text);
            } else {
                incomplete(text, length);
            }
        }
    }

    /** "up to the first one that is not possible". */
    private static void promise15UpToTheFirstNotPossible() {
        String[] texts = {"0*", "0*,0+1", "0*,0*,0+1", "0<,0+1", "0*,1<,2<,2<,0+1",
            "0*,0+1,0+1,1<"};
        int[] done = {1, 2, 1, 0, 3, 2};
        int[] things = {0, 1, 0, 0, 0, 1};
        int[] burn = {1, 1, 1, 0, 3, 1};
        for (int text = 0; text < texts.length; text++) {
            CandleRooms x = new CandleRooms();
            Check.same("done of " + texts[text], done[text], Check.play(x, texts[text]));
            Check.same("things", things[text], x.count(3));
            Check.same("candles", burn[text], x.count(2));
            Check.same("undoable as one call", 0, x.undo());
            Check.same("as a new one", new CandleRooms().digest(), x.digest());
        }
    }

    /** Each deed is impossible where its call is refused. */
    private static void promise15EachRefusal() {
        CandleRooms x = Stores.stump(0);
        Check.same("a candle of the length 1 is struck", 1, Check.play(x, "0*,0*"));
        x.pass(1);
        Check.same("one of the length 0 is not", 0, Check.play(x, "0*,1n"));
        CandleRooms y = Stores.burntDown(0);
        y.strike(1);
        Check.same("nor is it lit", 0, Check.play(y, "0>,1n"));
        CandleRooms z = new CandleRooms();
        Check.same("12 in the box", 12, Check.play(z, "0n,".repeat(12) + "0n,1b1"));
        Check.same("the box is empty", 0, z.count(1));
        Check.same("no draught", -1, z.count(8));
        CandleRooms w = new CandleRooms();
        Check.same("4 in a room", 4, Check.play(w, "0+1,0+2,0+3,0+4,0+5,1b1"));
        Check.same("a key twice", 1, Check.play(w, "1+0,2+0,1b1"));
        Check.same("no draught", -1, w.count(8));
        Check.same("a draught in place of one", 2, Check.play(w, "1b1,2b6"));
        Check.same("the later one", 2, w.count(8));
    }

    /** "and clears the buffer", "also if nothing is done". */
    private static void promise15ClearsTheBuffer() {
        CandleRooms x = new CandleRooms();
        Check.same("nothing is done", 0, Check.play(x, "0<,1n"));
        Check.same("it is clear", 0, x.clearBuffer());
        Check.same("a state is saved", 1, x.count(11));
        Check.same("all is done", 2, Check.play(x, "0*,1n"));
        Check.same("it is clear", 0, x.clearBuffer());
        Check.same("one state more", 2, x.count(11));
        x.undo();
        Check.same("undo brings no text back", 0, x.clearBuffer());
    }

    /** Nothing of a longer text that was there before is read. */
    private static void promise15NothingOfAnOlderText() {
        CandleRooms x = new CandleRooms();
        Check.same("two digits", 1, Check.play(x, "0+12"));
        Check.same("one digit", 1, Check.play(x, "0+3"));
        Check.same("its key", 1, x.thing(3, 2));
        Check.type(x, "4+77,5+5");
        x.clearBuffer();
        Check.same("a digit of the strength", 1, Check.play(x, "4b2"));
        Check.same("the strength", 2, x.count(9));
        Check.type(x, "4+");
        Check.same("no digit yet", 2, x.firstError());
        Check.badArgument("no digit yet", x, () -> x.play());
        Check.same("no other thing", 2, x.count(3));
    }

    private static void promise15FullBuffer() {
        CandleRooms x = new CandleRooms();
        Check.same("15 deeds", 15, Check.play(x, FULL));
        Check.same("the last one", 0, x.thing(10, 0));
        Check.same("one state", 1, x.count(11));
        Check.same("room for 60 more", 15 - 1, Check.play(x, FULL));
    }
}
