import java.util.ArrayDeque;
import java.util.ArrayList;
import java.util.Arrays;
import java.util.Deque;
import java.util.List;
import java.util.regex.Matcher;
import java.util.regex.Pattern;

/**
 * The document told a second time, by other means: forecasts let the beats of a copy pass, ways are
 * found by lighting whole sets of rooms, texts are matched by patterns. Refused calls throw.
 */
final class Model {
    private static final Pattern PART = Pattern.compile("([0-5])([*<>n]|b([1-6])|\\+(0|[1-9][0-9]?))");

    private static final class State {
        int[] length = {10, 10, 10, 10, 10, 10};
        int[] wick = new int[6];
        int[] burnt = new int[6];
        boolean[] burns = new boolean[6];
        boolean[] shield = new boolean[6];
        boolean[] open = {true, true, true, true, true, true};
        List<List<int[]>> things = new ArrayList<>();
        int beats;
        int box = 12;
        int forgotten;
        int readings;
        int darkReadings;
        int blown;
        int draughtRoom = -1;
        int strength;
        int setting = 12;

        State() {
            for (int room = 0; room < 6; room++) {
                things.add(new ArrayList<>());
            }
        }

        State copy() {
            State c = new State();
            c.length = length.clone();
            c.wick = wick.clone();
            c.burnt = burnt.clone();
            c.burns = burns.clone();
            c.shield = shield.clone();
            c.open = open.clone();
            for (int room = 0; room < 6; room++) {
                for (int[] thing : things.get(room)) {
                    c.things.get(room).add(thing.clone());
                }
            }
            c.beats = beats;
            c.box = box;
            c.forgotten = forgotten;
            c.readings = readings;
            c.darkReadings = darkReadings;
            c.blown = blown;
            c.draughtRoom = draughtRoom;
            c.strength = strength;
            c.setting = setting;
            return c;
        }

        List<Integer> draughtRooms() {
            List<Integer> rooms = new ArrayList<>();
            int room = draughtRoom;
            while (rooms.size() < strength) {
                if (shield[room]) {
                    break;
                }
                rooms.add(room);
                if (!open[room]) {
                    break;
                }
                room = room == 5 ? 0 : room + 1;
            }
            return rooms;
        }

        void beat() {
            for (int room = 0; room < 6; room++) {
                if (burns[room]) {
                    burnt[room]++;
                    int shorter = wick[room] >= 6 ? 3 : wick[room] >= 3 ? 2 : 1;
                    length[room] -= Math.min(length[room], shorter);
                    if (length[room] == 0) {
                        burns[room] = false;
                    } else if (wick[room] < 9) {
                        wick[room]++;
                    }
                }
            }
            for (int room : draughtRooms()) {
                if (burns[room]) {
                    burns[room] = false;
                    blown++;
                }
            }
            draughtRoom = -1;
            strength = 0;
            for (int room = 0; room < 6; room++) {
                for (int[] thing : things.get(room)) {
                    thing[1] = burns[room] ? 0 : thing[1] + 1;
                }
                int had = things.get(room).size();
                things.get(room).removeIf(thing -> thing[1] >= setting);
                forgotten += had - things.get(room).size();
            }
            beats++;
        }

        int[] find(int key) {
            for (int room = 0; room < 6; room++) {
                for (int place = 0; place < things.get(room).size(); place++) {
                    int[] thing = things.get(room).get(place);
                    if (thing[0] == key) {
                        return new int[] {room, thing[1], place};
                    }
                }
            }
            return null;
        }

        int burning() {
            int burning = 0;
            for (boolean one : burns) {
                burning += one ? 1 : 0;
            }
            return burning;
        }

        int things() {
            return things.stream().mapToInt(List::size).sum();
        }

        boolean joined(int room, int other) {
            for (int door = 0; door < 6; door++) {
                int next = door == 5 ? 0 : door + 1;
                boolean between = room == door && other == next || room == next && other == door;
                if (between && open[door]) {
                    return true;
                }
            }
            return false;
        }

        boolean canLight(int room, int from) {
            return !burns[room] && length[room] > 0 && burns[from] && joined(room, from);
        }
    }

    private State s = new State();
    private final Deque<State> saved = new ArrayDeque<>();
    private String buffer = "";

    private void save() {
        saved.addLast(s.copy());
        if (saved.size() > 6) {
            saved.removeFirst();
        }
    }

    private static void room(int room) {
        if (room < 0 || room > 5) {
            throw new IndexOutOfBoundsException();
        }
    }

    private static void argument(int value, int low, int high) {
        if (value < low || value > high) {
            throw new IllegalArgumentException();
        }
    }

    private static void state(boolean right) {
        if (!right) {
            throw new IllegalStateException();
        }
    }

    int strike(int room) {
        room(room);
        state(s.burning() == 0 && s.length[room] > 0);
        save();
        s.burns[room] = true;
        return s.length[room];
    }

    int light(int room, int from) {
        room(room);
        room(from);
        state(s.canLight(room, from));
        save();
        s.burns[room] = true;
        return s.length[room];
    }

    int fresh(int room) {
        room(room);
        state(s.box > 0);
        save();
        s.burns[room] = false;
        s.length[room] = 20;
        s.wick[room] = 0;
        return --s.box;
    }

    int door(int door, boolean isOpen) {
        room(door);
        save();
        int was = s.open[door] ? 1 : 0;
        s.open[door] = isOpen;
        return was;
    }

    int shield(int room, boolean has) {
        room(room);
        save();
        int had = s.shield[room] ? 1 : 0;
        s.shield[room] = has;
        return had;
    }

    int draught(int room, int strength) {
        room(room);
        argument(strength, 1, 6);
        save();
        s.draughtRoom = room;
        s.strength = strength;
        return (int) s.draughtRooms().stream().filter(blown -> s.burns[blown]).count();
    }

    int set(int beats) {
        argument(beats, 1, 50);
        save();
        int previous = s.setting;
        s.setting = beats;
        return previous;
    }

    int keep(int room, int key) {
        room(room);
        argument(key, 0, 99);
        state(s.find(key) == null && s.things.get(room).size() < 4);
        save();
        s.things.get(room).add(new int[] {key, 0});
        return s.things.get(room).size();
    }

    int read(int key) {
        argument(key, 0, 99);
        save();
        int[] thing = s.find(key);
        if (thing == null) {
            return -1;
        }
        s.readings++;
        int beats = 1;
        if (s.burns[thing[0]]) {
            s.wick[thing[0]] = 0;
        } else {
            s.darkReadings++;
            beats = 3;
        }
        for (int beat = 0; beat < beats; beat++) {
            s.beat();
        }
        return thing[0];
    }

    int pass(int beats) {
        argument(beats, 1, 60);
        save();
        int before = s.things();
        for (int beat = 0; beat < beats; beat++) {
            s.beat();
        }
        return before - s.things();
    }

    int append(int code) {
        argument(code, 33, 126);
        state(buffer.length() < 60);
        buffer += (char) code;
        return buffer.length();
    }

    int clearBuffer() {
        int had = buffer.length();
        buffer = "";
        return had;
    }

    private static boolean isDeeds(String text) {
        for (String part : text.split(",", -1)) {
            if (!PART.matcher(part).matches()) {
                return false;
            }
        }
        return true;
    }

    /** Whether deeds begin with this: it can be ended in one of a few ways, then. */
    private static boolean begins(String text) {
        for (String end : new String[] {"", "n", "0n", "1", "0"}) {
            if (isDeeds(text + end)) {
                return true;
            }
        }
        return false;
    }

    int firstError() {
        int length = 0;
        while (length < buffer.length() && begins(buffer.substring(0, length + 1))) {
            length++;
        }
        return length;
    }

    private boolean deed(Matcher part) {
        int room = Integer.parseInt(part.group(1));
        try {
            switch (part.group(2).charAt(0)) {
                case '*' -> strike(room);
                case '<' -> light(room, room == 0 ? 5 : room - 1);
                case '>' -> light(room, room == 5 ? 0 : room + 1);
                case 'n' -> fresh(room);
                case 'b' -> draught(room, Integer.parseInt(part.group(3)));
                default -> keep(room, Integer.parseInt(part.group(4)));
            }
            return true;
        } catch (IllegalStateException e) {
            return false;
        }
    }

    int play() {
        if (!isDeeds(buffer)) {
            throw new IllegalArgumentException();
        }
        save();
        List<State> before = new ArrayList<>(saved);
        int done = 0;
        for (String text : buffer.split(",")) {
            Matcher part = PART.matcher(text);
            if (!part.matches() || !deed(part)) {
                break;
            }
            done++;
        }
        saved.clear();
        saved.addAll(before);
        buffer = "";
        return done;
    }

    int undo() {
        state(!saved.isEmpty());
        s = saved.removeLast();
        return saved.size();
    }

    int room(int room, int what) {
        room(room);
        argument(what, 0, 7);
        int first = s.things.get(room).isEmpty() ? -1 : s.things.get(room).get(0)[0];
        return new int[] {s.length[room], s.burns[room] ? 1 : 0, s.wick[room],
            s.shield[room] ? 1 : 0, s.things.get(room).size(), s.open[room] ? 1 : 0,
            s.burnt[room], first}[what];
    }

    int thing(int key, int what) {
        argument(key, 0, 99);
        argument(what, 0, 2);
        int[] thing = s.find(key);
        return thing == null ? -1 : thing[what];
    }

    int count(int what) {
        argument(what, 0, 11);
        return new int[] {s.beats, s.box, s.burning(), s.things(), s.forgotten, s.readings,
            s.darkReadings, s.blown, s.draughtRoom, s.strength, s.setting, saved.size()}[what];
    }

    int lasts(int room) {
        room(room);
        State copy = s.copy();
        int beats = 0;
        while (copy.burns[room]) {
            copy.beat();
            beats++;
        }
        return beats;
    }

    int nextForgotten() {
        if (s.things() == 0) {
            return -1;
        }
        State copy = s.copy();
        int beats = 0;
        while (copy.forgotten == s.forgotten) {
            copy.beat();
            beats++;
        }
        return beats;
    }

    int carried(int room) {
        room(room);
        if (s.burning() == 0) {
            return s.length[room] > 0 ? 1 : -1;
        }
        // Each round lights all that can be lit, as far as it comes: the round is the number.
        State copy = s.copy();
        for (int round = 0; round < 6; round++) {
            if (copy.burns[room]) {
                return round;
            }
            State next = copy.copy();
            for (int lit = 0; lit < 6; lit++) {
                for (int from = 0; from < 6; from++) {
                    next.burns[lit] |= copy.canLight(lit, from);
                }
            }
            copy = next;
        }
        return -1;
    }

    int needy() {
        int best = -1;
        int least = Integer.MAX_VALUE;
        for (int room = 5; room >= 0; room--) {
            int rank = s.length[room] * 100 - s.things.get(room).size();
            if (!s.things.get(room).isEmpty() && rank <= least) {
                least = rank;
                best = room;
            }
        }
        return best;
    }

    int saves(int room) {
        room(room);
        if (!s.burns[room]) {
            return 0;
        }
        State still = s.copy();
        still.strength = 0;
        State trimmed = still.copy();
        while (still.burns[room]) {
            still.beat();
        }
        while (trimmed.burns[room]) {
            trimmed.wick[room] = 0;
            trimmed.beat();
        }
        return trimmed.beats - still.beats;
    }

    double lit() {
        int inLight = 0;
        for (int room = 0; room < 6; room++) {
            inLight += s.burns[room] ? s.things.get(room).size() : 0;
        }
        return s.things() == 0 ? 1.0 : (double) inLight / s.things();
    }

    long digest() {
        List<Long> values = new ArrayList<>();
        for (int what = 0; what < 12; what++) {
            values.add((long) count(what));
        }
        for (int room = 0; room < 6; room++) {
            for (int what = 0; what < 8; what++) {
                values.add((long) room(room, what));
            }
            for (int[] thing : s.things.get(room)) {
                Arrays.stream(thing).forEach(number -> values.add((long) number));
            }
            values.add((long) lasts(room));
            values.add((long) carried(room));
            values.add((long) saves(room));
        }
        values.add((long) nextForgotten());
        values.add((long) needy());
        values.add(Double.doubleToLongBits(lit()));
        values.add((long) buffer.length());
        buffer.chars().forEach(code -> values.add((long) code));
        long hash = 3499;
        for (long value : values) {
            hash = 31 * hash + value;
        }
        return hash;
    }
}
