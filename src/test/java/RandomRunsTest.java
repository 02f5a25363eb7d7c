import java.lang.reflect.InvocationTargetException;
import java.lang.reflect.Method;
import java.util.Arrays;
import java.util.Random;

/** Promises 1 to 26 in long mixed runs of calls, each answer compared with the model's. */
public final class RandomRunsTest {
    private static final int RUNS = 600;
    // The promises end behind 512 calls, and each step is followed by a digest.
    private static final int CALLS = 256;
    private static final int[] ODD = {-7, -1, 0, 3, 6, 7, 8, 12, 32, 51, 60, 61, 100, 127,
        Integer.MIN_VALUE, Integer.MAX_VALUE};

    /** One call of the face, made by its name on the class and on the model alike. */
    private static final class Step {
        final String method;
        final Object[] arguments;

        Step(String method, Object... arguments) {
            this.method = method;
            this.arguments = arguments;
        }

        /** The answer as a text, or the name of the exception's class. */
        String answerOf(Object object) {
            Class<?>[] types = new Class<?>[arguments.length];
            for (int place = 0; place < types.length; place++) {
                types[place] = arguments[place] instanceof Boolean ? boolean.class : int.class;
            }
            try {
                Method called = object.getClass().getDeclaredMethod(method, types);
                return String.valueOf(called.invoke(object, arguments));
            } catch (InvocationTargetException e) {
                return e.getCause().getClass().getName();
            } catch (ReflectiveOperationException e) {
                throw new IllegalStateException(e);
            }
        }

        String told() {
            return method + Arrays.toString(arguments);
        }
    }

    private final Random random;
    private final CandleRooms x = new CandleRooms();
    private final Model model = new Model();
    private String toType = "";

    private RandomRunsTest(long seed) {
        random = new Random(seed);
    }

    public static void main(String[] args) {
        for (int seed = 0; seed < RUNS; seed++) {
            new RandomRunsTest(seed).run("run " + seed);
        }
        Check.end("RandomRunsTest");
    }

    /** Stops at the first call that is not as due: what comes behind it tells nothing. */
    private void run(String name) {
        for (int call = 1; call <= CALLS; call++) {
            Step step = nextStep();
            String told = name + ", call " + call + ", " + step.told();
            String due = step.answerOf(model);
            String got = step.answerOf(x);
            if (!due.equals(got)) {
                Check.fail(told + ": due is " + due + ", answered is " + got);
                return;
            }
            if (model.digest() != x.digest()) {
                Check.fail(told + ": the digest behind it is another one");
                return;
            }
            Check.same(told, 0, 0);
        }
    }

    private boolean chance(int percent) {
        return random.nextInt(100) < percent;
    }

    /** A number of this range, seldom one far off. */
    private int number(int low, int high) {
        if (chance(2)) {
            return ODD[random.nextInt(ODD.length)];
        }
        return low + random.nextInt(high - low + 1);
    }

    private int room() {
        return number(0, 5);
    }

    /** Few keys, so that they meet again. */
    private int key() {
        return chance(90) ? number(0, 25) : number(0, 99);
    }

    private int beside(int room) {
        return Math.floorMod(room + (chance(50) ? 1 : -1), 6);
    }

    private Step nextStep() {
        if (!toType.isEmpty()) {
            int code = toType.charAt(0);
            toType = toType.substring(1);
            return new Step("append", code);
        }
        int kind = random.nextInt(100);
        if (kind < 62) {
            return nextDeed();
        }
        if (kind < 66) {
            toType = deeds();
            return new Step("clearBuffer");
        }
        if (kind < 72) {
            return new Step("play");
        }
        if (kind < 76) {
            return new Step("undo");
        }
        if (kind < 78) {
            return new Step("append", number(33, 126));
        }
        return nextLook();
    }

    private Step nextDeed() {
        int room = room();
        return switch (random.nextInt(14)) {
            case 0 -> new Step("strike", room);
            case 1, 2, 3 -> new Step("light", room, chance(90) ? beside(room) : room());
            case 4 -> new Step("fresh", room);
            case 5 -> new Step("door", room, chance(65));
            case 6 -> new Step("shield", room, chance(35));
            case 7 -> new Step("draught", room, number(1, 6));
            case 8 -> new Step("set", number(1, chance(50) ? 10 : 50));
            case 9, 10 -> new Step("keep", room, key());
            case 11, 12 -> new Step("read", key());
            default -> new Step("pass", number(1, chance(85) ? 3 : 60));
        };
    }

    private Step nextLook() {
        return switch (random.nextInt(11)) {
            case 0 -> new Step("firstError");
            case 1 -> new Step("room", room(), number(0, 7));
            case 2 -> new Step("thing", key(), number(0, 2));
            case 3 -> new Step("count", number(0, 11));
            case 4 -> new Step("lasts", room());
            case 5 -> new Step("nextForgotten");
            case 6 -> new Step("carried", room());
            case 7 -> new Step("needy");
            case 8 -> new Step("saves", room());
            case 9 -> new Step("lit");
            default -> new Step("digest");
        };
    }

    /** Deeds as a text, often with one character that is wrong, or cut off. */
    private String deeds() {
        StringBuilder text = new StringBuilder();
        int parts = chance(5) ? 25 : 1 + random.nextInt(6);
        for (int part = 0; part < parts; part++) {
            text.append(part == 0 ? "" : ",").append(random.nextInt(6));
            text.append(switch (random.nextInt(6)) {
                case 0 -> "*";
                case 1 -> "<";
                case 2 -> ">";
                case 3 -> "n";
                case 4 -> "b" + (1 + random.nextInt(6));
                default -> "+" + random.nextInt(chance(50) ? 12 : 100);
            });
        }
        if (chance(15)) {
            text.setCharAt(random.nextInt(text.length()), "0123456789,*<>nb+x".charAt(
                random.nextInt(18)));
        }
        if (chance(10)) {
            text.setLength(random.nextInt(text.length() + 1));
        }
        return text.toString();
    }
}
