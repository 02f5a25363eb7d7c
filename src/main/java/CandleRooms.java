/**
 * A store of six rooms in a ring, lit by candles that burn down, whose things are forgotten when
 * they are dark too long. What each call promises stands in the document, promise by promise.
 */
public final class CandleRooms {
    /** There is nothing to return. */
    public static final int NONE = -1;

    private static final int ROOMS = 6;
    private static final int PLACES = 4;
    private static final int KEYS = 100;
    private static final int FIRST_LENGTH = 10;
    private static final int NEW_LENGTH = 20;
    private static final int LONGEST = 60;
    private static final int THICK_WICK = 3;
    private static final int THICKER_WICK = 6;
    private static final int THICKEST_WICK = 9;
    private static final int FIRST_BOX = 12;
    private static final int FIRST_SETTING = 12;
    private static final int MOST_SETTING = 50;
    private static final int MOST_STRENGTH = 6;
    private static final int MOST_BEATS = 60;
    private static final int LIT_READING = 1;
    private static final int DARK_READING = 3;
    private static final int MOST_SAVED = 6;
    private static final int MOST_CHARACTERS = 60;
    private static final int FIRST_CODE = 33;
    private static final int LAST_CODE = 126;
    private static final int ROOM_NUMBERS = 8;
    private static final int THING_NUMBERS = 3;
    private static final int COUNTS = 12;
    private static final long FIRST_HASH = 3499L;

    private final Store store;
    private final SavedStores saved;
    private final DeedText text;

    public CandleRooms() {
        store = new Store();
        saved = new SavedStores();
        text = new DeedText();
    }

    // ---- candles, doors

    public int strike(int room) throws IndexOutOfBoundsException, IllegalStateException {
        requireRoom(room);
        if (!store.canStrike(room)) {
            throw new IllegalStateException("some candle burns, or this one is burnt down");
        }
        saved.push(store);
        return store.kindle(room);
    }

    public int light(int room, int from) throws IndexOutOfBoundsException, IllegalStateException {
        requireRoom(room);
        requireRoom(from);
        if (!store.canLight(room, from)) {
            throw new IllegalStateException("this candle cannot be lit from that one");
        }
        saved.push(store);
        return store.kindle(room);
    }

    public int fresh(int room) throws IndexOutOfBoundsException, IllegalStateException {
        requireRoom(room);
        if (!store.hasNewCandle()) {
            throw new IllegalStateException("the box is empty");
        }
        saved.push(store);
        return store.putNewCandle(room);
    }

    public int door(int door, boolean isOpen) throws IndexOutOfBoundsException {
        if (!isRoom(door)) {
            throw new IndexOutOfBoundsException("there is no such door");
        }
        saved.push(store);
        Room room = store.roomAt(door);
        boolean was = room.doorIsOpen;
        room.doorIsOpen = isOpen;
        return asNumber(was);
    }

    public int shield(int room, boolean has) throws IndexOutOfBoundsException {
        requireRoom(room);
        saved.push(store);
        Room shielded = store.roomAt(room);
        boolean had = shielded.hasShield;
        shielded.hasShield = has;
        return asNumber(had);
    }

    public int draught(int room, int strength)
            throws IndexOutOfBoundsException, IllegalArgumentException {
        requireRoom(room);
        if (strength < 1 || strength > MOST_STRENGTH) {
            throw new IllegalArgumentException("strength is 1 to 6");
        }
        saved.push(store);
        return store.beginDraught(room, strength);
    }

    public int set(int beats) throws IllegalArgumentException {
        if (beats < 1 || beats > MOST_SETTING) {
            throw new IllegalArgumentException("the setting is 1 to 50");
        }
        saved.push(store);
        int previous = store.setting;
        store.setting = beats;
        return previous;
    }

    // ---- things

    public int keep(int room, int key)
            throws IndexOutOfBoundsException, IllegalArgumentException, IllegalStateException {
        requireRoom(room);
        requireKey(key);
        if (!store.canKeep(room, key)) {
            throw new IllegalStateException("a thing has this key, or the room is full");
        }
        saved.push(store);
        return store.putThing(room, key);
    }

    public int read(int key) throws IllegalArgumentException {
        requireKey(key);
        saved.push(store);
        return store.readThing(key);
    }

    public int pass(int beats) throws IllegalArgumentException {
        if (beats < 1 || beats > MOST_BEATS) {
            throw new IllegalArgumentException("1 to 60 beats pass");
        }
        saved.push(store);
        return store.passBeats(beats);
    }

    // ---- texts

    public int append(int code) throws IllegalArgumentException, IllegalStateException {
        if (code < FIRST_CODE || code > LAST_CODE) {
            throw new IllegalArgumentException("a code is 33 to 126");
        }
        if (text.isFull()) {
            throw new IllegalStateException("the buffer is full");
        }
        return text.add((char) code);
    }

    public int clearBuffer() {
        return text.empty();
    }

    public int firstError() {
        return text.errorPlace();
    }

    public int play() throws IllegalArgumentException {
        if (!text.isComplete()) {
            throw new IllegalArgumentException("the buffer is not complete deeds");
        }
        saved.push(store);
        int done = playDeeds();
        text.empty();
        return done;
    }

    public int undo() throws IllegalStateException {
        if (saved.size == 0) {
            throw new IllegalStateException("no state is saved");
        }
        return saved.popInto(store);
    }

    // ---- looks; nothing is changed

    public int room(int room, int what) throws IndexOutOfBoundsException, IllegalArgumentException {
        requireRoom(room);
        requireNumber(what, ROOM_NUMBERS);
        return store.roomAt(room).number(what);
    }

    public int thing(int key, int what) throws IllegalArgumentException {
        requireKey(key);
        requireNumber(what, THING_NUMBERS);
        return store.thingNumber(key, what);
    }

    public int count(int what) throws IllegalArgumentException {
        requireNumber(what, COUNTS);
        return countNumber(what);
    }

    // ---- what would be; nothing is changed

    public int lasts(int room) throws IndexOutOfBoundsException {
        requireRoom(room);
        return store.beatsLit(room);
    }

    public int nextForgotten() {
        return store.beatsToForgetting();
    }

    public int carried(int room) throws IndexOutOfBoundsException {
        requireRoom(room);
        return store.candlesToLight(room);
    }

    public int needy() {
        return store.neediest();
    }

    public int saves(int room) throws IndexOutOfBoundsException {
        requireRoom(room);
        return store.roomAt(room).beatsSaved();
    }

    public double lit() {
        return store.shareInLight();
    }

    public long digest() {
        long hash = FIRST_HASH;
        for (int what = 0; what < COUNTS; what++) {
            hash = mix(hash, countNumber(what));
        }
        for (int room = 0; room < ROOMS; room++) {
            hash = mixRoom(hash, room);
        }
        hash = mix(hash, store.beatsToForgetting());
        hash = mix(hash, store.neediest());
        hash = mix(hash, bitsOf(store.shareInLight()));
        hash = mix(hash, text.length);
        for (int place = 0; place < text.length; place++) {
            hash = mix(hash, text.codeAt(place));
        }
        return hash;
    }

    private static void requireRoom(int room) {
        if (!isRoom(room)) {
            throw new IndexOutOfBoundsException("there is no such room");
        }
    }

    private static void requireKey(int key) {
        if (key < 0 || key >= KEYS) {
            throw new IllegalArgumentException("a key is 0 to 99");
        }
    }

    private static void requireNumber(int what, int numbers) {
        if (what < 0 || what >= numbers) {
            throw new IllegalArgumentException("there is no such number");
        }
    }

    private static boolean isRoom(int room) {
        return room >= 0 && room < ROOMS;
    }

    private static int asNumber(boolean holds) {
        return holds ? 1 : 0;
    }

    private int countNumber(int what) {
        switch (what) {
            case 0:
                return store.beats;
            case 1:
                return store.box;
            case 2:
                return store.candlesBurning();
            case 3:
                return store.thingsInAll();
            case 4:
                return store.forgotten;
            case 5:
                return store.readings;
            case 6:
                return store.darkReadings;
            case 7:
                return store.blownOut;
            case 8:
                return store.draughtRoom;
            case 9:
                return store.draughtStrength;
            case 10:
                return store.setting;
            default:
                return saved.size;
        }
    }

    private int playDeeds() {
        int done = 0;
        for (int place = 0; place < text.length; place++) {
            if (text.startsPart(place)) {
                if (!playDeed(place)) {
                    return done;
                }
                done++;
            }
        }
        return done;
    }

    /** Does the deed whose part begins at this place; false if it is not possible. */
    private boolean playDeed(int place) {
        int room = text.digitAt(place);
        int number = text.numberFrom(place + 2);
        switch (text.codeAt(place + 1)) {
            case '*':
                return store.strikeIfPossible(room);
            case '<':
                return store.lightIfPossible(room, Math.floorMod(room - 1, ROOMS));
            case '>':
                return store.lightIfPossible(room, Math.floorMod(room + 1, ROOMS));
            case 'n':
                return store.renewIfPossible(room);
            case 'b':
                store.beginDraught(room, number);
                return true;
            default:
                return store.keepIfPossible(room, number);
        }
    }

    private static long mix(long hash, long value) {
        return 31L * hash + value;
    }

    private long mixRoom(long before, int number) {
        long hash = before;
        Room room = store.roomAt(number);
        for (int what = 0; what < ROOM_NUMBERS; what++) {
            hash = mix(hash, room.number(what));
        }
        for (int place = 0; place < room.things; place++) {
            hash = mix(hash, room.keyAt(place));
            hash = mix(hash, room.darkAt(place));
        }
        hash = mix(hash, store.beatsLit(number));
        hash = mix(hash, store.candlesToLight(number));
        return mix(hash, room.beatsSaved());
    }

    // LANGUAGE.md lists no Double.doubleToLongBits, so the bits are put together here; doubling
    // loses nothing, and a share is 0 to 1, so neither sign nor infinity can come.
    private static long bitsOf(double share) {
        if (share <= 0.0) {
            return 0L;
        }
        double mantissa = share;
        long exponent = 1023L;
        for (int doubled = 0; doubled < 1022 && mantissa < 1.0; doubled++) {
            mantissa = mantissa * 2.0;
            exponent--;
        }
        long fraction = (long) ((mantissa - 1.0) * (double) (1L << 52));
        return (exponent << 52) | fraction;
    }

    /** A room with its candle, its things, and the door to the next room. */
    private static final class Room {
        final int[] keys;
        final int[] dark;
        int things;
        int length;
        boolean burns;
        int wick;
        boolean hasShield;
        boolean doorIsOpen;
        int beatsBurnt;

        Room() {
            keys = new int[PLACES];
            dark = new int[PLACES];
            length = FIRST_LENGTH;
            doorIsOpen = true;
        }

        void copyRoom(Room other) {
            System.arraycopy(other.keys, 0, keys, 0, PLACES);
            System.arraycopy(other.dark, 0, dark, 0, PLACES);
            things = other.things;
            length = other.length;
            burns = other.burns;
            wick = other.wick;
            hasShield = other.hasShield;
            doorIsOpen = other.doorIsOpen;
            beatsBurnt = other.beatsBurnt;
        }

        int number(int what) {
            switch (what) {
                case 0:
                    return length;
                case 1:
                    return asNumber(burns);
                case 2:
                    return wick;
                case 3:
                    return asNumber(hasShield);
                case 4:
                    return things;
                case 5:
                    return asNumber(doorIsOpen);
                case 6:
                    return beatsBurnt;
                default:
                    return keyAt(0);
            }
        }

        int keyAt(int place) {
            return place >= 0 && place < things ? keys[place] : NONE;
        }

        int darkAt(int place) {
            return place >= 0 && place < things ? dark[place] : NONE;
        }

        int placeOf(int key) {
            for (int place = 0; place < things; place++) {
                if (keys[place] == key) {
                    return place;
                }
            }
            return NONE;
        }

        void addThing(int key) {
            if (things < PLACES) {
                keys[things] = key;
                dark[things] = 0;
                things++;
            }
        }

        void takeNewCandle() {
            length = NEW_LENGTH;
            wick = 0;
            burns = false;
        }

        static int burntInBeat(int wick) {
            return 1 + asNumber(wick >= THICK_WICK) + asNumber(wick >= THICKER_WICK);
        }

        void burnForBeat() {
            if (!burns) {
                return;
            }
            beatsBurnt++;
            length = Math.max(0, length - burntInBeat(wick));
            burns = length > 0;
            if (burns) {
                wick = Math.min(THICKEST_WICK, wick + 1);
            }
        }

        /** The beats that the candle would burn if it were neither trimmed nor blown out. */
        int beatsUntrimmed() {
            int left = length;
            int thickness = wick;
            for (int beat = 0; beat < LONGEST; beat++) {
                if (left <= 0) {
                    return beat;
                }
                left -= burntInBeat(thickness);
                thickness = Math.min(THICKEST_WICK, thickness + 1);
            }
            return LONGEST;
        }

        // A candle whose wick is always 0 burns for as many beats as it is long.
        int beatsSaved() {
            return burns ? length - beatsUntrimmed() : 0;
        }

        /** Ends a beat for the things; returns how many of them are forgotten. */
        int ageThings(int setting) {
            int stay = 0;
            for (int place = 0; place < things; place++) {
                int beats = burns ? 0 : dark[place] + 1;
                if (beats < setting) {
                    keys[stay] = keys[place];
                    dark[stay] = beats;
                    stay++;
                }
            }
            int gone = things - stay;
            things = stay;
            return gone;
        }

        /** The beats until the first of its things is forgotten, if it stays lit for beatsLit. */
        int beatsToFirstForgotten(int beatsLit, int setting) {
            // The beat in which the candle goes out is the first dark one, and all before it set
            // the things back to 0; with beatsLit 1 there is none before it.
            if (beatsLit > 1) {
                return beatsLit + setting - 1;
            }
            int longest = 0;
            for (int place = 0; place < things; place++) {
                longest = Math.max(longest, dark[place]);
            }
            // The setting may have become less than a thing's beats: it goes in the next beat.
            return Math.max(1, setting - longest);
        }
    }

    /** All that undo brings back. */
    private static final class Store {
        final Room[] rooms;
        int beats;
        int box;
        int forgotten;
        int readings;
        int darkReadings;
        int blownOut;
        int draughtRoom;
        int draughtStrength;
        int setting;

        Store() {
            rooms = new Room[ROOMS];
            for (int room = 0; room < ROOMS; room++) {
                rooms[room] = new Room();
            }
            box = FIRST_BOX;
            draughtRoom = NONE;
            setting = FIRST_SETTING;
        }

        void copyFrom(Store other) {
            for (int room = 0; room < ROOMS; room++) {
                rooms[room].copyRoom(other.rooms[room]);
            }
            beats = other.beats;
            box = other.box;
            forgotten = other.forgotten;
            readings = other.readings;
            darkReadings = other.darkReadings;
            blownOut = other.blownOut;
            draughtRoom = other.draughtRoom;
            draughtStrength = other.draughtStrength;
            setting = other.setting;
        }

        /** The room with this number, counted on round the ring in both directions. */
        Room roomAt(int number) {
            return rooms[Math.floorMod(number, ROOMS)];
        }

        int candlesBurning() {
            int burning = 0;
            for (int room = 0; room < ROOMS; room++) {
                burning += asNumber(rooms[room].burns);
            }
            return burning;
        }

        int candlesBurningFrom(int first, int roomsOn) {
            int burning = 0;
            for (int step = 0; step < roomsOn; step++) {
                burning += asNumber(roomAt(first + step).burns);
            }
            return burning;
        }

        int thingsInAll() {
            int things = 0;
            for (int room = 0; room < ROOMS; room++) {
                things += rooms[room].things;
            }
            return things;
        }

        int roomOf(int key) {
            for (int room = 0; room < ROOMS; room++) {
                if (rooms[room].placeOf(key) != NONE) {
                    return room;
                }
            }
            return NONE;
        }

        int thingNumber(int key, int what) {
            int number = roomOf(key);
            if (number == NONE) {
                return NONE;
            }
            Room room = roomAt(number);
            int place = room.placeOf(key);
            switch (what) {
                case 0:
                    return number;
                case 1:
                    return room.darkAt(place);
                default:
                    return place;
            }
        }

        boolean canStrike(int room) {
            return candlesBurning() == 0 && roomAt(room).length > 0;
        }

        boolean canLight(int room, int from) {
            Room lit = roomAt(room);
            return !lit.burns && lit.length > 0 && roomAt(from).burns && areJoined(room, from);
        }

        boolean areJoined(int room, int other) {
            if (other == Math.floorMod(room + 1, ROOMS)) {
                return roomAt(room).doorIsOpen;
            }
            if (room == Math.floorMod(other + 1, ROOMS)) {
                return roomAt(other).doorIsOpen;
            }
            return false;
        }

        int kindle(int room) {
            Room lit = roomAt(room);
            lit.burns = true;
            return lit.length;
        }

        boolean strikeIfPossible(int room) {
            if (!canStrike(room)) {
                return false;
            }
            kindle(room);
            return true;
        }

        boolean lightIfPossible(int room, int from) {
            if (!canLight(room, from)) {
                return false;
            }
            kindle(room);
            return true;
        }

        boolean hasNewCandle() {
            return box > 0;
        }

        int putNewCandle(int room) {
            roomAt(room).takeNewCandle();
            box--;
            return box;
        }

        boolean renewIfPossible(int room) {
            if (!hasNewCandle()) {
                return false;
            }
            putNewCandle(room);
            return true;
        }

        boolean canKeep(int room, int key) {
            return roomOf(key) == NONE && roomAt(room).things < PLACES;
        }

        int putThing(int room, int key) {
            Room keeper = roomAt(room);
            keeper.addThing(key);
            return keeper.things;
        }

        boolean keepIfPossible(int room, int key) {
            if (!canKeep(room, key)) {
                return false;
            }
            putThing(room, key);
            return true;
        }

        int beginDraught(int room, int strength) {
            draughtRoom = room;
            draughtStrength = strength;
            return candlesBurningFrom(room, roomsBlown());
        }

        /** How many rooms, from its own on, the draught blows out. */
        int roomsBlown() {
            for (int step = 0; step < draughtStrength; step++) {
                Room room = roomAt(draughtRoom + step);
                if (room.hasShield) {
                    return step;
                }
                if (!room.doorIsOpen) {
                    return step + 1;
                }
            }
            return draughtStrength;
        }

        boolean isInDraught(int room) {
            return Math.floorMod(room - draughtRoom, ROOMS) < roomsBlown();
        }

        void blow() {
            int reach = roomsBlown();
            blownOut += candlesBurningFrom(draughtRoom, reach);
            for (int step = 0; step < reach; step++) {
                roomAt(draughtRoom + step).burns = false;
            }
            draughtRoom = NONE;
            draughtStrength = 0;
        }

        int passBeats(int number) {
            int gone = 0;
            for (int beat = 0; beat < number; beat++) {
                gone += passBeat();
            }
            return gone;
        }

        /** Returns how many things are forgotten in the beat. */
        int passBeat() {
            for (int room = 0; room < ROOMS; room++) {
                rooms[room].burnForBeat();
            }
            blow();
            int gone = 0;
            for (int room = 0; room < ROOMS; room++) {
                gone += rooms[room].ageThings(setting);
            }
            forgotten += gone;
            beats++;
            return gone;
        }

        int readThing(int key) {
            int number = roomOf(key);
            if (number == NONE) {
                return NONE;
            }
            Room room = roomAt(number);
            readings++;
            if (room.burns) {
                room.wick = 0;
                passBeats(LIT_READING);
            } else {
                darkReadings++;
                passBeats(DARK_READING);
            }
            return number;
        }

        int beatsLit(int number) {
            Room room = roomAt(number);
            if (!room.burns) {
                return 0;
            }
            return isInDraught(number) ? 1 : room.beatsUntrimmed();
        }

        int beatsToForgetting() {
            int next = NONE;
            for (int room = 0; room < ROOMS; room++) {
                if (rooms[room].things > 0) {
                    int beatsOfRoom = rooms[room].beatsToFirstForgotten(beatsLit(room), setting);
                    next = next == NONE ? beatsOfRoom : Math.min(next, beatsOfRoom);
                }
            }
            return next;
        }

        int candlesToLight(int number) {
            if (candlesBurning() == 0) {
                return roomAt(number).length > 0 ? 1 : NONE;
            }
            int fromLower = candlesOnWay(number, -1);
            int fromHigher = candlesOnWay(number, 1);
            if (fromLower == NONE) {
                return fromHigher;
            }
            return fromHigher == NONE ? fromLower : Math.min(fromLower, fromHigher);
        }

        /** The candles to light up to the next burning one in this direction, 1 or -1. */
        int candlesOnWay(int number, int direction) {
            for (int lit = 0; lit < ROOMS; lit++) {
                int here = Math.floorMod(number + lit * direction, ROOMS);
                if (roomAt(here).burns) {
                    return lit;
                }
                int next = Math.floorMod(here + direction, ROOMS);
                if (roomAt(here).length == 0 || !areJoined(here, next)) {
                    return NONE;
                }
            }
            return NONE;
        }

        int neediest() {
            int best = NONE;
            for (int room = 0; room < ROOMS; room++) {
                if (rooms[room].things > 0 && (best == NONE || isNeedier(room, best))) {
                    best = room;
                }
            }
            return best;
        }

        boolean isNeedier(int room, int other) {
            Room first = roomAt(room);
            Room second = roomAt(other);
            if (first.length != second.length) {
                return first.length < second.length;
            }
            return first.things > second.things;
        }

        double shareInLight() {
            int all = thingsInAll();
            if (all == 0) {
                return 1.0;
            }
            int inLight = 0;
            for (int room = 0; room < ROOMS; room++) {
                inLight += rooms[room].burns ? rooms[room].things : 0;
            }
            return (double) inLight / (double) all;
        }
    }

    /** The states that undo can bring back, the oldest first; its rows are used again. */
    private static final class SavedStores {
        final Store[] rows;
        int size;

        SavedStores() {
            rows = new Store[MOST_SAVED];
            for (int row = 0; row < MOST_SAVED; row++) {
                rows[row] = new Store();
            }
        }

        void push(Store store) {
            if (size >= MOST_SAVED) {
                dropOldest();
            }
            rows[size].copyFrom(store);
            size++;
        }

        void dropOldest() {
            Store oldest = rows[0];
            for (int row = 1; row < MOST_SAVED; row++) {
                rows[row - 1] = rows[row];
            }
            rows[MOST_SAVED - 1] = oldest;
            size = MOST_SAVED - 1;
        }

        int popInto(Store store) {
            if (size > 0) {
                size--;
                store.copyFrom(rows[size]);
            }
            return size;
        }
    }

    /** The buffer, and the grammar of deeds as a text. */
    private static final class DeedText {
        static final int AT_ROOM = 0;
        static final int AT_SIGN = 1;
        static final int AT_STRENGTH = 2;
        static final int AT_KEY = 3;
        static final int IN_KEY = 4;
        static final int AT_END = 5;
        static final int WRONG = 6;

        final char[] codes;
        int length;

        DeedText() {
            codes = new char[MOST_CHARACTERS];
        }

        boolean isFull() {
            return length >= MOST_CHARACTERS;
        }

        int add(char code) {
            if (!isFull()) {
                codes[length] = code;
                length++;
            }
            return length;
        }

        int empty() {
            int had = length;
            length = 0;
            return had;
        }

        /** The code at this place; behind the end one that no text holds. */
        int codeAt(int place) {
            return place >= 0 && place < length ? codes[place] : 0;
        }

        static boolean isDigit(int code, int lowest, int highest) {
            return code >= '0' + lowest && code <= '0' + highest;
        }

        int digitAt(int place) {
            int code = codeAt(place);
            return isDigit(code, 0, 9) ? code - '0' : NONE;
        }

        /** The number whose one or two digits begin at this place, 0 without digits. */
        int numberFrom(int place) {
            int first = Math.max(0, digitAt(place));
            int second = digitAt(place + 1);
            return second == NONE ? first : first * 10 + second;
        }

        boolean startsPart(int place) {
            return place == 0 || codeAt(place - 1) == ',';
        }

        int errorPlace() {
            int state = AT_ROOM;
            for (int place = 0; place < length; place++) {
                state = stateBehind(state, codeAt(place));
                if (state == WRONG) {
                    return place;
                }
            }
            return length;
        }

        boolean isComplete() {
            int state = AT_ROOM;
            for (int place = 0; place < length; place++) {
                state = stateBehind(state, codeAt(place));
            }
            return state == IN_KEY || state == AT_END;
        }

        static int stateBehind(int state, int code) {
            switch (state) {
                case AT_ROOM:
                    return isDigit(code, 0, ROOMS - 1) ? AT_SIGN : WRONG;
                case AT_SIGN:
                    return stateBehindSign(code);
                case AT_STRENGTH:
                    return isDigit(code, 1, MOST_STRENGTH) ? AT_END : WRONG;
                case AT_KEY:
                    return code == '0' ? AT_END : isDigit(code, 1, 9) ? IN_KEY : WRONG;
                case IN_KEY:
                    return isDigit(code, 0, 9) ? AT_END : code == ',' ? AT_ROOM : WRONG;
                case AT_END:
                    return code == ',' ? AT_ROOM : WRONG;
                default:
                    return WRONG;
            }
        }

        static int stateBehindSign(int code) {
            switch (code) {
                case '*':
                case '<':
                case '>':
                case 'n':
                    return AT_END;
                case 'b':
                    return AT_STRENGTH;
                case '+':
                    return AT_KEY;
                default:
                    return WRONG;
            }
        }
    }
}
