import java.util.Random;

/** Promises 1 to 26 in long mixed runs of calls, each answer compared with the model's. */
public final class RandomRunsTest {
    private static final int RUNS = 600;
    // The promises end behind 512 calls, and each step is followed by a digest.
    private static final int CALLS = 256;
    private static final int[] ODD = {-1, 6, 7, 60, 61, 100, 101, -7, Integer.MIN_VALUE,
        Integer.MAX_VALUE};

    /** One call of the face, made on the class and on the model. */
    private static final class Step {
        final int method;
        final int a;
        final int b;

        Step(int method, int a, int b) {
            this.method = method;
            this.a = a;
            this.b = b;
        }

        long make(CandleRooms x) {
            return switch (method) {
                case 0 -> x.strike(a);
                case 1 -> x.light(a, b);
                case 2 -> x.fresh(a);
                case 3 -> x.door(a, b % 2 == 0);
                case 4 -> x.shield(a, b % 2 == 0);
                case 5 -> x.draught(a, b);
                case 6 -> x.set(a);
                case 7 -> x.keep(a, b);
                case 8 -> x.read(a);
                case 9 -> x.pass(a);
                case 10 -> x.append(a);
                case 11 -> x.clearBuffer();
                case 12 -> x.firstError();
                case 13 -> x.play();
                case 14 -> x.undo();
                case 15 -> x.room(a, b);
                case 16 -> x.thing(a, b);
                case 17 -> x.count(a);
                case 18 -> x.lasts(a);
                case 19 -> x.nextForgotten();
                case 20 -> x.carried(a);
                case 21 -> x.needy();
                case 22 -> x.saves(a);
                case 23 -> Double.doubleToRawLongBits(x.lit());
                default -> x.digest();
            };
        }

        long make(Model x) {
            return switch (method) {
                case 0 -> x.strike(a);
                case 1 -> x.light(a, b);
                case 2 -> x.fresh(a);
                case 3 -> x.door(a, b % 2 == 0);
                case 4 -> x.shield(a, b % 2 == 0);
                case 5 -> x.draught(a, b);
                case 6 -> x.set(a);
                case 7 -> x.keep(a, b);
                case 8 -> x.read(a);
                case 9 -> x.pass(a);
                case 10 -> x.append(a);
                case 11 -> x.clearBuffer();
                case 12 -> x.firstError();
                case 13 -> x.play();
                case 14 -> x.undo();
                case 15 -> x.room(a, b);
                case 16 -> x.thing(a, b);
                case 17 -> x.count(a);
                case 18 -> x.lasts(a);
                case 19 -> x.nextForgotten();
                case 20 -> x.carried(a);
                case 21 -> x.needy();
                case 22 -> x.saves(a);
                case 23 -> Double.doubleToRawLongBits(x.lit());
                default -> x.digest();
            };
        }

        String told() {
            return "method " + method + " with " + a + ", " + b;
        }
    }

    private final Random random;
    private final CandleRooms x = new CandleRooms();
    private final Model model = new Model();
    private String toType = "";

    private RandomRunsTest(long seed) {
        random = new Random(seed);
    }

    public static void main(String[] args) {
        for (int seed = 0; seed < RUNS; seed++) {
            new RandomRunsTest(seed).run("run " + seed);
        }
        Check.end("RandomRunsTest");
    }

    /** Stops at the first call that is not as due: what comes behind it tells nothing. */
    private void run(String name) {
        for (int call = 1; call <= CALLS; call++) {
            Step step = nextStep();
            String told = name + ", call " + call + ", " + step.told();
            String due = answer(step, false);
            String got = answer(step, true);
            if (!due.equals(got)) {
                Check.fail(told + ": due is " + due + ", answered is " + got);
                return;
            }
            if (model.digest() != x.digest()) {
                Check.fail(told + ": the digest behind it is another one");
                return;
            }
            Check.same(told, 0, 0);
        }
    }

    private String answer(Step step, boolean ofClass) {
        try {
            return Long.toString(ofClass ? step.make(x) : step.make(model));
        } catch (RuntimeException e) {
            return e.getClass().getName();
        }
    }

    private boolean chance(int percent) {
        return random.nextInt(100) < percent;
    }

    /** A number of this range, seldom one far off. */
    private int number(int low, int high) {
        if (chance(2)) {
            return ODD[random.nextInt(ODD.length)];
        }
        return low + random.nextInt(high - low + 1);
    }

    private int room() {
        return number(0, 5);
    }

    /** Few keys, so that they meet again. */
    private int key() {
        return chance(90) ? number(0, 25) : number(0, 99);
    }

    private int beside(int room) {
        return Math.floorMod(room + (chance(50) ? 1 : -1), 6);
    }

    private Step nextStep() {
        if (!toType.isEmpty()) {
            int code = toType.charAt(0);
            toType = toType.substring(1);
            return new Step(10, code, 0);
        }
        int kind = random.nextInt(100);
        if (kind < 62) {
            return nextDeed();
        }
        if (kind < 66) {
            toType = deeds();
            return new Step(11, 0, 0);
        }
        if (kind < 72) {
            return new Step(13, 0, 0);
        }
        if (kind < 76) {
            return new Step(14, 0, 0);
        }
        if (kind < 78) {
            return new Step(10, number(33, 126), 0);
        }
        return nextLook();
    }

    private Step nextDeed() {
        int room = room();
        switch (random.nextInt(14)) {
            case 0:
                return new Step(0, room, 0);
            case 1:
            case 2:
            case 3:
                return new Step(1, room, chance(90) ? beside(room) : room());
            case 4:
                return new Step(2, room, 0);
            case 5:
                return new Step(3, room, random.nextInt(3));
            case 6:
                return new Step(4, room, 1 + random.nextInt(3));
            case 7:
                return new Step(5, room, number(1, 6));
            case 8:
                return new Step(6, chance(50) ? number(1, 10) : number(1, 50), 0);
            case 9:
            case 10:
                return new Step(7, room, key());
            case 11:
            case 12:
                return new Step(8, key(), 0);
            default:
                return new Step(9, chance(85) ? number(1, 3) : number(1, 60), 0);
        }
    }

    private Step nextLook() {
        int method = new int[] {12, 15, 16, 17, 18, 19, 20, 21, 22, 23, 24}[random.nextInt(11)];
        return switch (method) {
            case 15 -> new Step(method, room(), number(0, 7));
            case 16 -> new Step(method, key(), number(0, 2));
            case 17 -> new Step(method, number(0, 11), 0);
            default -> new Step(method, room(), 0);
        };
    }

    /** Deeds as a text, often with one character that is wrong, or cut off. */
    private String deeds() {
        StringBuilder text = new StringBuilder();
        int parts = chance(5) ? 25 : 1 + random.nextInt(6);
        for (int part = 0; part < parts; part++) {
            text.append(part == 0 ? "" : ",").append(random.nextInt(6));
            text.append(switch (random.nextInt(6)) {
                case 0 -> "*";
                case 1 -> "<";
                case 2 -> ">";
                case 3 -> "n";
                case 4 -> "b" + (1 + random.nextInt(6));
                default -> "+" + random.nextInt(chance(50) ? 12 : 100);
            });
        }
        if (chance(15)) {
            text.setCharAt(random.nextInt(text.length()), "0123456789,*<>nb+x".charAt(
                random.nextInt(18)));
        }
        if (chance(10)) {
            text.setLength(random.nextInt(text.length() + 1));
        }
        return text.toString();
    }
}
